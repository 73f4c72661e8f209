/-! The law: worlds put in order beside a tail; a new card on both sides -/
theorem fc_rangeQ {Y : va_W} : (List.range Y.length).map (fun i => Y[i]?) = Y.map some := by
  refine List.ext_getElem? (fun i => ?_)
  rw [List.getElem?_map, List.getElem?_map]
  by_cases h : i < Y.length
  · rw [List.getElem?_range h, List.getElem?_eq_getElem h]
    show some (Y[i]?) = some (some Y[i])
    rw [List.getElem?_eq_getElem h]
  · rw [List.getElem?_eq_none (by rw [List.length_range]; omega), List.getElem?_eq_none (by omega)]
    rfl
/-- a list, read at places that are all its places -/
theorem fc_permI {X Y : va_W} {is : List Nat} {n : Nat} (e : is.map (fun i => Y[i]?) = X.map some) (hn : Y.length = n) (hp : is.isPerm (List.range n) = true) : Y.Perm X := by
  subst hn
  have h1 := fc_nd e
  have h2 := fc_nd (fc_rangeQ (Y := Y))
  have h3 : is.Perm (List.range Y.length) := List.isPerm_iff.mp hp
  have h4 := h3.filterMap (fun i => Y[i]?)
  rw [h1, h2] at h4
  exact h4.symm
theorem va_P.ord {D : va_G} {cl : List vw_C} {X Y pl : va_W} {H : Heap} (h : va_P D cl (Y ++ pl) H) (is : List Nat) {n : Nat} (e : is.map (fun i => Y[i]?) = X.map some) (hn : Y.length = n) (hp : is.isPerm (List.range n) = true) : va_P D cl (X ++ pl) H :=
  h.perm ((fc_permI e hn hp).append_right pl)
theorem va_D.ord {A : Nat → Prop} {X Y pl : va_W} (h : va_D A (Y ++ pl)) (is : List Nat) {n : Nat} (e : is.map (fun i => Y[i]?) = X.map some) (hn : Y.length = n) (hp : is.isPerm (List.range n) = true) : va_D A (X ++ pl) :=
  h.perm ((fc_permI e hn hp).append_right pl)
/-- one state of the pool to the front, and back -/
theorem va_P.front {D : va_G} {cl : List vw_C} {X : va_W} {H : Heap} {tc : Nat → ClassId} {a : Nat → Nat → Nat} {v : Nat → fcSV} {q n : Nat} (h : va_P D cl (X ++ fcPool tc a v n) H) (hq : q < n) : va_P D cl ((X ++ fcSw tc (a q) (v q)) ++ fcRest tc a v q n) H := by
  rw [List.append_assoc]
  exact h.perm ((fcPool_perm hq).append_left X)
theorem va_D.front {A : Nat → Prop} {X : va_W} {tc : Nat → ClassId} {a : Nat → Nat → Nat} {v : Nat → fcSV} {q n : Nat} (h : va_D A (X ++ fcPool tc a v n)) (hq : q < n) : va_D A ((X ++ fcSw tc (a q) (v q)) ++ fcRest tc a v q n) := by
  rw [List.append_assoc]
  exact h.perm ((fcPool_perm hq).append_left X)
theorem fc_backE {X : va_W} {tc : Nat → ClassId} {a : Nat → Nat → Nat} {v : Nat → fcSV} {z : fcSV} {q n : Nat} (hq : q < n) : ((X ++ fcSw tc (a q) z) ++ fcRest tc a v q n).Perm (X ++ fcPool tc a (fun i => if i = q then z else v i) n) := by
  rw [List.append_assoc]
  refine List.Perm.append_left X ?_
  have h := fcPool_perm (tc := tc) (a := a) (v := fun i => if i = q then z else v i) hq
  try dsimp only at h
  rw [if_pos rfl, fcRest_cong (a' := a) (v' := v) (fun i _ hi => ⟨rfl, if_neg hi⟩)] at h
  exact h.symm
theorem va_P.back {D : va_G} {cl : List vw_C} {X : va_W} {H : Heap} {tc : Nat → ClassId} {a : Nat → Nat → Nat} {v : Nat → fcSV} {z : fcSV} {q n : Nat} (h : va_P D cl ((X ++ fcSw tc (a q) z) ++ fcRest tc a v q n) H) (hq : q < n) : va_P D cl (X ++ fcPool tc a (fun i => if i = q then z else v i) n) H := h.perm (fc_backE hq)
theorem va_D.back {A : Nat → Prop} {X : va_W} {tc : Nat → ClassId} {a : Nat → Nat → Nat} {v : Nat → fcSV} {z : fcSV} {q n : Nat} (h : va_D A ((X ++ fcSw tc (a q) z) ++ fcRest tc a v q n)) (hq : q < n) : va_D A (X ++ fcPool tc a (fun i => if i = q then z else v i) n) := h.perm (fc_backE hq)
/-- a new card on both sides -/
theorem P_new : RS 0 mX5_init (mX8_clean (fun _ => (0 : Int32)) 24 2 2 4) := by
  have hR := R_new (C := 24) (p := 2) (set := va_cpy fcS0 (fun _ => 0) 0 0 3) (h0 := fun _ => 0) (kc := fun _ => 0) (qc := fun _ => 0) (told := fun _ => 0) (row := fun _ => 0) (p2 := nI 2) (p3 := 2) (p4 := 4) ⟨by omega, by omega⟩ (by omega) rfl ⟨rfl, rfl, rfl⟩
  rw [r_clean]
  unfold mX5_init mX0_init mX1_init mX3_init mX5_begin
  dsimp only
  rw [r_begin0]
  unfold mX3_begin mX3_beginRound
  dsimp only
  rw [pl_lit0, pl_3]
  exact ⟨0, 0, 24, 0, hR⟩
theorem P_start8 {isk : Nat → Int32} : TR 0 0 0 (fun _ => 0) isk := ⟨by omega, rfl, rfl, fun j hj => by omega⟩
