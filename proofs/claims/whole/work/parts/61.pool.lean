/-! A state's cells under one name; the pool of the history's states; calls beside a pool; the history's constructor -/
abbrev fcSV : Type := Int32 × Int32 × Int32 × Int32 × Int32 × Int32 × (Nat → Int32) × Int32 × Int32 × Int32 × (Nat → Int32) × Int32 × (Nat → Int32) × Int32 × (Nat → Int32) × Int32 × Int32 × Int32 × Int32 × Int32 × Int32 × (Nat → Int32)
abbrev fcSw (tc : Nat → ClassId) (a : Nat → Nat) (v : fcSV) : va_W := [((a 0), .inr (5, [.ref (a 1), .ref (a 2), .ref (a 4), .ref (a 6), .ref (a 8), .int (v.1), .int (v.2.1), .int (v.2.2.1), .int (v.2.2.2.1), .int (v.2.2.2.2.1), .int (v.2.2.2.2.2.1)])), ((a 1), .inl (tc 0, 3, .inl (v.2.2.2.2.2.2.1))), ((a 2), .inr (0, [.ref (a 3), .int (v.2.2.2.2.2.2.2.1), .int (v.2.2.2.2.2.2.2.2.1), .int (v.2.2.2.2.2.2.2.2.2.1)])), ((a 3), .inl (tc 0, 48, .inl (v.2.2.2.2.2.2.2.2.2.2.1))), ((a 4), .inr (1, [.ref (a 5), .int (v.2.2.2.2.2.2.2.2.2.2.2.1)])), ((a 5), .inl (tc 0, 336, .inl (v.2.2.2.2.2.2.2.2.2.2.2.2.1))), ((a 6), .inr (1, [.ref (a 7), .int (v.2.2.2.2.2.2.2.2.2.2.2.2.2.1)])), ((a 7), .inl (tc 0, 28, .inl (v.2.2.2.2.2.2.2.2.2.2.2.2.2.2.1))), ((a 8), .inr (3, [.ref (a 9), .int (v.2.2.2.2.2.2.2.2.2.2.2.2.2.2.2.1), .int (v.2.2.2.2.2.2.2.2.2.2.2.2.2.2.2.2.1), .int (v.2.2.2.2.2.2.2.2.2.2.2.2.2.2.2.2.2.1), .int (v.2.2.2.2.2.2.2.2.2.2.2.2.2.2.2.2.2.2.1), .int (v.2.2.2.2.2.2.2.2.2.2.2.2.2.2.2.2.2.2.2.1), .int (v.2.2.2.2.2.2.2.2.2.2.2.2.2.2.2.2.2.2.2.2.1)])), ((a 9), .inl (tc 0, 30, .inl (v.2.2.2.2.2.2.2.2.2.2.2.2.2.2.2.2.2.2.2.2.2)))]
def fcPool (tc : Nat → ClassId) (a : Nat → Nat → Nat) (v : Nat → fcSV) : Nat → va_W
  | 0 => []
  | n + 1 => fcPool tc a v n ++ fcSw tc (a n) (v n)
/-- the pool but the state q -/
def fcRest (tc : Nat → ClassId) (a : Nat → Nat → Nat) (v : Nat → fcSV) (q : Nat) : Nat → va_W
  | 0 => []
  | n + 1 => fcRest tc a v q n ++ (if n = q then [] else fcSw tc (a n) (v n))
theorem fcPool_cong {tc : Nat → ClassId} {a a' : Nat → Nat → Nat} {v v' : Nat → fcSV} : ∀ {n : Nat}, (∀ i, i < n → a i = a' i ∧ v i = v' i) → fcPool tc a v n = fcPool tc a' v' n
  | 0, _ => rfl
  | n + 1, h => by
    show fcPool tc a v n ++ fcSw tc (a n) (v n) = fcPool tc a' v' n ++ fcSw tc (a' n) (v' n)
    rw [fcPool_cong (fun i hi => h i (by omega)), (h n (by omega)).1, (h n (by omega)).2]
theorem fcRest_cong {tc : Nat → ClassId} {a a' : Nat → Nat → Nat} {v v' : Nat → fcSV} {q : Nat} : ∀ {n : Nat}, (∀ i, i < n → i ≠ q → a i = a' i ∧ v i = v' i) → fcRest tc a v q n = fcRest tc a' v' q n
  | 0, _ => rfl
  | n + 1, h => by
    show fcRest tc a v q n ++ (if n = q then [] else fcSw tc (a n) (v n)) = fcRest tc a' v' q n ++ (if n = q then [] else fcSw tc (a' n) (v' n))
    rw [fcRest_cong (fun i hi => h i (by omega))]
    by_cases e : n = q
    · rw [if_pos e, if_pos e]
    · rw [if_neg e, if_neg e, (h n (by omega) e).1, (h n (by omega) e).2]
theorem fcRest_all {tc : Nat → ClassId} {a : Nat → Nat → Nat} {v : Nat → fcSV} {q : Nat} : ∀ {n : Nat}, n ≤ q → fcRest tc a v q n = fcPool tc a v n
  | 0, _ => rfl
  | n + 1, h => by
    show fcRest tc a v q n ++ (if n = q then [] else fcSw tc (a n) (v n)) = fcPool tc a v n ++ fcSw tc (a n) (v n)
    rw [fcRest_all (by omega), if_neg (by omega)]
theorem fcPool_perm {tc : Nat → ClassId} {a : Nat → Nat → Nat} {v : Nat → fcSV} {q : Nat} : ∀ {n : Nat}, q < n → (fcPool tc a v n).Perm (fcSw tc (a q) (v q) ++ fcRest tc a v q n)
  | n + 1, h => by
    show (fcPool tc a v n ++ fcSw tc (a n) (v n)).Perm (fcSw tc (a q) (v q) ++ (fcRest tc a v q n ++ (if n = q then [] else fcSw tc (a n) (v n))))
    by_cases e : n = q
    · subst e
      rw [if_pos rfl, List.append_nil, fcRest_all (Nat.le_refl _)]
      exact List.perm_append_comm
    · rw [if_neg e, ← List.append_assoc]
      exact (fcPool_perm (by omega)).append_right _
theorem va_P.perm {D : va_G} {cl : List vw_C} {ws ws' : va_W} {H : Heap} (h : va_P D cl ws H) (p : ws.Perm ws') : va_P D cl ws' H := by
  intro k q hk
  obtain ⟨i, hi⟩ := List.getElem?_of_mem (p.mem_iff.mpr (List.mem_of_getElem? hk))
  exact h i q hi
theorem va_D.pw {A : Nat → Prop} {ws : va_W} (h : va_D A ws) : ws.Pairwise (fun p q => p.1 ≠ q.1) := by
  rw [List.pairwise_iff_getElem]
  intro i j hi hj hij e
  have := h.1 i j ws[i] ws[j] (List.getElem?_eq_getElem hi) (List.getElem?_eq_getElem hj) e
  omega
theorem va_D.perm {A : Nat → Prop} {ws ws' : va_W} (h : va_D A ws) (p : ws.Perm ws') : va_D A ws' := by
  have h1 := (p.pairwise_iff (R := fun p q : Nat × va_E => p.1 ≠ q.1) (fun e => Ne.symm e)).mp h.pw
  rw [List.pairwise_iff_getElem] at h1
  refine ⟨fun i j x y hx hy e => ?_, fun k q hk => ?_⟩
  · obtain ⟨hi, ex⟩ := List.getElem?_eq_some_iff.mp hx
    obtain ⟨hj, ey⟩ := List.getElem?_eq_some_iff.mp hy
    rcases Nat.lt_trichotomy i j with z | z | z
    · exact absurd (show ws'[i].1 = ws'[j].1 by rw [ex, ey]; exact e) (h1 i j hi hj z)
    · exact z
    · exact absurd (show ws'[j].1 = ws'[i].1 by rw [ex, ey]; exact e.symm) (h1 j i hj hi z)
  · obtain ⟨i, hi⟩ := List.getElem?_of_mem (p.mem_iff.mpr (List.mem_of_getElem? hk))
    exact h.2 i q hi
/-- places in a list, seen in a longer one -/
theorem fc_mapL {X wc pl : va_W} {is : List Nat} (h : is.map (fun i => X[i]?) = wc.map some) : is.map (fun i => (X ++ pl)[i]?) = wc.map some := by
  rw [← h]
  refine List.map_congr_left (fun i hi => ?_)
  have h2 : X[i]? ∈ is.map (fun i => X[i]?) := List.mem_map_of_mem hi
  rw [h] at h2
  obtain ⟨q, -, hq⟩ := List.mem_map.mp h2
  rw [List.getElem?_append_left (List.getElem?_eq_some_iff.mp hq.symm).1]
section FCQ
variable {p : Program} {l : Launch} {e : Env} {R : Room} {s : State} {m : MethodId} {args : Array Value} {below : List Frame} {meth : Method} {c : Code} {H : Heap} {locs : List Loc} {cells slots : Nat} {Q : State → Prop}
variable {y : MethodName} {bytes cc : ByteArray} {maxL nL mc ms n index pc : Nat} {ret : Option FieldType} {wy : List Cond} {rm : Room} {Ts : List Cond} {own C : String} {b : Addr} {As rest st0 : List Value} {ls : Array Slot}
variable {D : va_G} {tc : Nat → ClassId} {A : Nat → Prop} {X pl wc wr : va_W} {isC isR : List Nat} {S : Type} {W1 : S → va_W}
theorem fc_goiQ {post : Int32 → S → Prop} {a : Array Value} (hP : va_P D vwCl (X ++ pl) H) (hD : va_D A (X ++ pl)) (hS : va_S A s.heap H locs) (hA : ∀ q : Nat, s.heap.size ≤ q → A q) (hC : isC.map (fun i => X[i]?) = wc.map some) (hR : isR.map (fun i => X[i]?) = wr.map some) (hnR : va_nd isR = true) (hdis : ∀ i ∈ isR, i ∉ isC)
    (hr : va_Run p l e R s m args below meth c H locs cells slots mc ms (F0 m pc ls st0) rest (va_Qi post (fun u t => fcO D (va_A wc H.size) (W1 u) t) (va_A wc H.size) a) (va_A wc H.size))
    (kk : ∀ (r : Int32) (u : S) (H1 : Heap) (locs1 : List Loc), post r u → va_P D vwCl ((wr ++ W1 u) ++ pl) H1 → va_D A ((wr ++ W1 u) ++ pl) → va_S A s.heap H1 locs1 → W p l e R s m args below meth c H1 locs1 (cells + mc) (slots + ms) Q (F0 m (pc + 3) ls (.int r :: rest))) : W p l e R s m args below meth c H locs cells slots Q (F0 m pc ls st0) := by
  have hFc := va_free hD hS hA isC (fc_mapL hC)
  refine va_calli hr hS (fun q _ h => hFc q h) hFc (fun r u t H1 locs1 ht hvm hw hB hz1 hk1 hS1 => ?_)
  obtain ⟨hP1, hD1⟩ := hB
  rw [ht] at hP1
  obtain ⟨hP2, hD2⟩ := va_joinQ hP hD isC isR hC hR hnR hdis hk1 hFc hP1 hD1
  exact kk r u H1 locs1 hw hP2 hD2 hS1
theorem fc_golQ {post : Int64 → S → Prop} {a : Array Value} (hP : va_P D vwCl (X ++ pl) H) (hD : va_D A (X ++ pl)) (hS : va_S A s.heap H locs) (hA : ∀ q : Nat, s.heap.size ≤ q → A q) (hC : isC.map (fun i => X[i]?) = wc.map some) (hR : isR.map (fun i => X[i]?) = wr.map some) (hnR : va_nd isR = true) (hdis : ∀ i ∈ isR, i ∉ isC)
    (hr : va_Run p l e R s m args below meth c H locs cells slots mc ms (F0 m pc ls st0) rest (va_Ql post (fun u t => fcO D (va_A wc H.size) (W1 u) t) (va_A wc H.size) a) (va_A wc H.size))
    (kk : ∀ (r : Int64) (u : S) (H1 : Heap) (locs1 : List Loc), post r u → va_P D vwCl ((wr ++ W1 u) ++ pl) H1 → va_D A ((wr ++ W1 u) ++ pl) → va_S A s.heap H1 locs1 → W p l e R s m args below meth c H1 locs1 (cells + mc) (slots + ms) Q (F0 m (pc + 3) ls (.long r :: rest))) : W p l e R s m args below meth c H locs cells slots Q (F0 m pc ls st0) := by
  have hFc := va_free hD hS hA isC (fc_mapL hC)
  refine va_calll hr hS (fun q _ h => hFc q h) hFc (fun r u t H1 locs1 ht hvm hw hB hz1 hk1 hS1 => ?_)
  obtain ⟨hP1, hD1⟩ := hB
  rw [ht] at hP1
  obtain ⟨hP2, hD2⟩ := va_joinQ hP hD isC isR hC hR hnR hdis hk1 hFc hP1 hD1
  exact kk r u H1 locs1 hw hP2 hD2 hS1
theorem fc_govQ {post : S → Prop} {a : Array Value} (hP : va_P D vwCl (X ++ pl) H) (hD : va_D A (X ++ pl)) (hS : va_S A s.heap H locs) (hA : ∀ q : Nat, s.heap.size ≤ q → A q) (hC : isC.map (fun i => X[i]?) = wc.map some) (hR : isR.map (fun i => X[i]?) = wr.map some) (hnR : va_nd isR = true) (hdis : ∀ i ∈ isR, i ∉ isC)
    (hr : va_Run p l e R s m args below meth c H locs cells slots mc ms (F0 m pc ls st0) rest (va_Qv post (fun u t => fcO D (va_A wc H.size) (W1 u) t) (va_A wc H.size) a) (va_A wc H.size))
    (kk : ∀ (u : S) (H1 : Heap) (locs1 : List Loc), post u → va_P D vwCl ((wr ++ W1 u) ++ pl) H1 → va_D A ((wr ++ W1 u) ++ pl) → va_S A s.heap H1 locs1 → W p l e R s m args below meth c H1 locs1 (cells + mc) (slots + ms) Q (F0 m (pc + 3) ls rest)) : W p l e R s m args below meth c H locs cells slots Q (F0 m pc ls st0) := by
  have hFc := va_free hD hS hA isC (fc_mapL hC)
  refine va_callv hr hS (fun q _ h => hFc q h) hFc (fun u t H1 locs1 ht hvm hw hB hz1 hk1 hS1 => ?_)
  obtain ⟨hP1, hD1⟩ := hB
  rw [ht] at hP1
  obtain ⟨hP2, hD2⟩ := va_joinQ hP hD isC isR hC hR hnR hdis hk1 hFc hP1 hD1
  exact kk u H1 locs1 hw hP2 hD2 hS1
theorem fc_goqQ {post : Option Nat → S → Prop} {a : Array Value} (hP : va_P D vwCl (X ++ pl) H) (hD : va_D A (X ++ pl)) (hS : va_S A s.heap H locs) (hA : ∀ q : Nat, s.heap.size ≤ q → A q) (hC : isC.map (fun i => X[i]?) = wc.map some) (hR : isR.map (fun i => X[i]?) = wr.map some) (hnR : va_nd isR = true) (hdis : ∀ i ∈ isR, i ∉ isC)
    (hr : va_Run p l e R s m args below meth c H locs cells slots mc ms (F0 m pc ls st0) rest (va_Qq post (fun u t => fcO D (va_A wc H.size) (W1 u) t) (va_A wc H.size) a) (va_A wc H.size))
    (kk : ∀ (r : Option Nat) (u : S) (H1 : Heap) (locs1 : List Loc), post r u → va_P D vwCl ((wr ++ W1 u) ++ pl) H1 → va_D A ((wr ++ W1 u) ++ pl) → va_S A s.heap H1 locs1 → W p l e R s m args below meth c H1 locs1 (cells + mc) (slots + ms) Q (F0 m (pc + 3) ls (va_rf r :: rest))) : W p l e R s m args below meth c H locs cells slots Q (F0 m pc ls st0) := by
  have hFc := va_free hD hS hA isC (fc_mapL hC)
  refine va_callq hr hS (fun q _ h => hFc q h) hFc (fun r u t H1 locs1 ht hvm hw hB hz1 hk1 hS1 => ?_)
  obtain ⟨hP1, hD1⟩ := hB
  rw [ht] at hP1
  obtain ⟨hP2, hD2⟩ := va_joinQ hP hD isC isR hC hR hnR hdis hk1 hFc hP1 hD1
  exact kk r u H1 locs1 hw hP2 hD2 hS1
end FCQ
/-- a method's start, where a row of states can be made -/
abbrev fcB2 (D : va_G) (tc : Nat → ClassId) (ws : va_W) (sz : Nat) (U : State) : Prop := fcB D tc ws sz U ∧ va_AO "FrameCard$State" U
theorem fcB2_blind {av : List Value} {D : va_G} {tc : Nat → ClassId} {ws : va_W} {sz : Nat} : FrameBlind (va_Pc av (fcB2 D tc ws sz)) := by
  intro a U g mk q
  obtain ⟨q0, q1, q2⟩ := q
  have h := fcB_blind (av := av) (D := D) (tc := tc) (ws := ws) (sz := sz) a U g mk ⟨q0, q1⟩
  exact ⟨h.1, h.2, va_AO.moved (u := U) (U := U.calling g mk a) (Vm.Alike.refl U.vm) q2⟩
section FCI
variable {p : Program} {l : Launch} {e : Env} {R : Room} {s : State} {m : MethodId} {args : Array Value} {below : List Frame} {meth : Method} {c : Code} {H : Heap} {locs : List Loc} {cells slots : Nat} {Q : State → Prop}
variable {y : MethodName} {bytes cc : ByteArray} {maxL nL mc ms n index pc : Nat} {ret : Option FieldType} {wy : List Cond} {rm : Room} {Ts : List Cond} {own C : String} {b : Addr} {As rest st0 : List Value} {ls : Array Slot}
variable {D : va_G} {tc : Nat → ClassId} {A : Nat → Prop} {ws wc wr : va_W} {isC isR : List Nat} {S : Type} {W1 : S → va_W}
theorem fc_runI2 {Qc : Array Value → State → Outcome → State → Prop} {free : Addr → Prop} (hx : p.tables.exec = Jvm.exec) (hb : c.code = cc) (hml : c.maxLocals = nL) (hown : s.vm.findClass own = some m.cls) (hts : ∀ w ∈ Ts, w.before args s = true) (hAO : va_AO "FrameCard$State" s) (hK : va_K D vwCl (fcT tc) s) (hE : fcE A s s.heap) (hP : va_P D vwCl ws H) (hD : va_D A ws) (hS : va_S A s.heap H locs) (hA : ∀ q : Nat, s.heap.size ≤ q → A q)
    (hC : isC.map (fun i => ws[i]?) = wc.map some) (hnC : va_nd isC = true)
    (hM : Met l y wy rm (va_Pc (.ref b :: As) (fcB2 D tc wc H.size)) Qc mc ms free) (cw : CallB R s args own index y bytes maxL none wy rm mc ms n ∧ y.name = "<init>" ∧ (Cond.instanceMethod y).before args s = true)
    (hn : As.length = n) (hsize : ls.size = nL) (hst : st0 = As.reverse ++ .ref b :: rest) (hW : (rest.map fun v => v.category).sum ≤ 8)
    (hdg : decode cc pc = .ok (.invokespecial index, 3)) (hf : cells + mc ≤ R.cells ∧ slots + ms ≤ R.slots) : va_Run p l e R s m args below meth c H locs cells slots mc ms (F0 m pc ls st0) rest (Qc (Value.ref b :: As).toArray) free := by
  have hPc := hP.sub isC (fc_nd hC)
  have hDc := hD.sub isC hnC hC
  have hFc := va_free hD hS hA isC hC
  subst hst
  exact va_runI ⟨hx, hb, hml, hown, hts⟩ hM cw ⟨fcB2_blind, fun U hU hW => ⟨(fcB_pre (av := .ref b :: As) hK hE hS hPc hDc hFc hU hW).1, (fcB_pre (av := .ref b :: As) hK hE hS hPc hDc hFc hU hW).2, va_AO.moved hW.alike hAO⟩⟩ rfl hn hsize rfl (lv_room hW) hdg hf
end FCI
theorem fc_ofWv2 {l : Launch} {y : MethodName} {wsy ws' : List Cond} {rm : Room} {cc : ByteArray} {maxL : Nat} {D : va_G} {tc : Nat → ClassId} {av : List Value} {W0 : va_W} {sz : Nat} {S : Type} {post : S → Prop} {W1 : S → va_W} {mc ms : Nat} (own : String) (hcls : y.cls = own) (hy : plainName y.cls = true) (hw : wsy = Cond.code y cc maxL none :: ws') (hav : (lg_sl av).length ≤ maxL)
    (body : ∀ (p : Program) (e : Env) (s : State) (m : MethodId) (args : Array Value) (below : List Frame) (meth : Method) (c : Code) (A : Nat → Prop) (Q : State → Prop), p.tables.exec = Jvm.exec → c.code = cc → c.maxLocals = maxL → s.vm.findClass own = some m.cls → (∀ w ∈ wsy, w.before args s = true) → va_K D vwCl (fcT tc) s → fcE A s s.heap → va_P D vwCl W0 s.heap → va_D A W0 → va_S A s.heap s.heap [] → (∀ q : Nat, s.heap.size ≤ q → A q) → meth.name = y.name → va_AO "FrameCard$State" s →
      (∀ (H : Heap) (locs : List Loc) (u : S) (ls : Array Slot) (pc : Nat), post u → va_P D vwCl (W1 u) H → va_D A (W1 u) → va_S A s.heap H locs → decode cc pc = .ok (.return_, 1) → W p l e rm s m args below meth c H locs mc ms Q (F0 m pc ls [])) →
      ∀ ls : Array Slot, lv_has ls maxL (lv_args 0 av) → W p l e rm s m args below meth c s.heap [] 0 0 Q (F0 m 0 ls [])) :
    Met l y wsy rm (va_Pc av (fcB2 D tc W0 sz)) (va_Qv post (fun u t => fcO D (va_A W0 sz) (W1 u) t) (va_A W0 sz)) mc ms (va_A W0 sz) := by
  refine Met.ofW (cc := cc) (maxL := maxL) (ret := none) hy hw ?_
  intro p e s m args below meth c s₁ B hml hv
  obtain ⟨rfl, ⟨hsz, hP, hK, hD0, hE⟩, hAO⟩ := hv
  subst hsz
  subst hcls
  have hr := B.returns
  have hlocks := B.notSynchronized
  rw [lg_entry_eq]
  refine body p e s m _ below meth c (va_A W0 s.heap.size) _ B.exec B.bytes hml (findClass_of_methodNamed B.named) (atoms_spec (ws := wsy) B.pre) hK hE hP hD0.self va_S.rf (fun q h => Or.inr h) (name_of_methodNamed B.named B.method).1 hAO ?_ _ (lv_entry av hav)
  intro H locs u ls pc hp hP1 hD1 hS hdg
  exact W.vret B.exec B.bytes hr (fun t ht hW => ⟨⟨u, rfl, hp, by rw [ht]; exact hP1, hD1⟩, hS.F ht⟩) hS.2.2 hdg
section FCN
variable {p : Program} {l : Launch} {e : Env} {R : Room} {s : State} {m : MethodId} {args : Array Value} {below : List Frame} {meth : Method} {c : Code} {H : Heap} {locs : List Loc} {cells slots : Nat} {Q : State → Prop}
variable {cc : ByteArray} {pc : Nat} {ls : Array Slot} {rest : List Value} {D : va_G} {tc : Nat → ClassId} {A : Nat → Prop} {ws : va_W}
theorem fc_newq {n : Int32} {N' : Nat} {own : String} {index : Nat} (hexec : p.tables.exec = Jvm.exec) (hb : c.code = cc) (hown : s.vm.findClass own = some m.cls) (hclink : (Cond.classLink own index "FrameCard$State").before args s = true) (hover : va_AO "FrameCard$State" s) (hK : va_K D vwCl (fcT tc) s) (hP : va_P D vwCl ws H) (hD : va_D A ws) (hS : va_S A s.heap H locs) (hA : ∀ q : Nat, s.heap.size ≤ q → A q)
    (hn : ¬ n < 0) (hN : n.toNatClampNeg = N') (hbytes : N' * 4 ≤ 536870912) (hcells : cells + 1 ≤ R.cells) (hslots : slots + N' ≤ R.slots) (hdg : decode cc pc = .ok (.anewarray index, 3))
    (kk : ∀ (q : Nat) (H1 : Heap), va_P D vwCl (ws ++ [(q, .inl (tc 4, N', .inr (.inr (.inr (.inr (fun _ => none))))))]) H1 → va_D A (ws ++ [(q, .inl (tc 4, N', .inr (.inr (.inr (.inr (fun _ => none))))))]) → va_S A s.heap H1 locs →
      W p l e R s m args below meth c H1 locs (cells + 1) (slots + N') Q (F0 m (pc + 3) ls (.ref q :: rest))) : W p l e R s m args below meth c H locs cells slots Q (F0 m pc ls (.int n :: rest)) := by
  refine va_newq hexec hb hown hclink hover hK hP hD hS hA hn hN hbytes hcells hslots hdg (fun q cA H1 hK1 hP1 hD1 hS1 => ?_)
  have h5 : (fcT tc ++ [(cA, .object "FrameCard$State")])[5]? = some (cA, .object "FrameCard$State") := rfl
  have h4 : (fcT tc)[4]? = some (tc 4, .object "FrameCard$State") := rfl
  have e : cA = tc 4 := fc_RAinj (hK1.2 5 _ h5).2 (hK.2 4 _ h4).2
  subst e
  exact kk q H1 hP1 hD1 hS1
end FCN
/-- ten addresses -/
abbrev pa10 (q0 q1 q2 q3 q4 q5 q6 q7 q8 q9 : Nat) : Nat → Nat := fun i => match i with
  | 0 => q0
  | 1 => q1
  | 2 => q2
  | 3 => q3
  | 4 => q4
  | 5 => q5
  | 6 => q6
  | 7 => q7
  | 8 => q8
  | _ => q9
/-- the row of states while it is filled -/
def paQ (a : Nat → Nat → Nat) (i : Nat) : Nat → Option Nat := fun j => if j < i then some (a j 0) else none
theorem paQ_s {a : Nat → Nat → Nat} {i : Nat} {z : Nat → Nat} : va_up (paQ a i) i (some (z 0)) = paQ (fun j => if j = i then z else a j) (i + 1) := by
  funext j
  unfold va_up paQ
  by_cases h : j = i
  · subst h
    rw [if_pos rfl, if_pos (by omega)]
    simp
  · rw [if_neg h]
    by_cases h2 : j < i
    · rw [if_pos h2, if_pos (by omega)]
      simp only [if_neg h]
    · rw [if_neg h2, if_neg (by omega)]
set_option maxRecDepth 20000 in
theorem iX2_init_X2 : ∀ w ∈ wsX20, w ∈ wsX2_init := by decide +kernel
set_option maxRecDepth 20000 in
theorem iX2_init_X5 : ∀ w ∈ wsX50, w ∈ wsX2_init := by decide +kernel
abbrev rmX2_init : Room := { frames := 4, cells := 141, slots := 6608, locals := 110 }
abbrev fcHi (tc : Nat → ClassId) (hi st : Nat) (f : Nat → Option Nat) (o n : Int32) : va_W := [(hi, .inr (2, [.ref st, .int o, .int n])), (st, .inl (tc 4, 14, .inr (.inr (.inr (.inr f)))))]
set_option maxHeartbeats 4000000 in
set_option maxRecDepth 100000 in
theorem c_X2_init (l : Launch) (D : va_G) (tc : Nat → ClassId) (hi : Nat) (sz : Nat) : Met l yX2_init wsX2_init rmX2_init (va_Pc [.ref hi] (fcB2 D tc [(hi, .inr (2, [.null, .int 0, .int 0]))] sz)) (va_Qv (fun (_ : Nat × (Nat → Nat → Nat)) => True) (fun u t => fcO D (va_A [(hi, .inr (2, [.null, .int 0, .int 0]))] sz) ((fun (u : Nat × (Nat → Nat → Nat)) => fcHi tc hi u.1 (paQ u.2 14) 0 0 ++ fcPool tc u.2 (fun _ => mX5_init) 14) u) t) (va_A [(hi, .inr (2, [.null, .int 0, .int 0]))] sz)) 141 6608 (va_A [(hi, .inr (2, [.null, .int 0, .int 0]))] sz) := by
  refine fc_ofWv2 (own := RX2) (cc := cX2_init) (maxL := 2) (W1 := (fun (u : Nat × (Nat → Nat → Nat)) => fcHi tc hi u.1 (paQ u.2 14) 0 0 ++ fcPool tc u.2 (fun _ => mX5_init) 14)) rfl (by decide) rfl (Nat.le_of_ble_eq_true rfl) ?_
  intro p e s m args below meth c A Q hx hb hml hown hts hK hE hP hD hS hA hin hAO hret ls hl
  have hl : lv_has ls 2 [(0, .ref hi)] := hl
  refine lv_aload_n hx hb dX2_init_0 rfl (lv_at hl 0 rfl) ?_
  refine W.objInit hx hb hown (hts (.methodLink RX2 3 objectInit) (by decide +kernel)) (hts (.instanceMethod objectInit) (by decide +kernel)) (hts (.code objectInit ⟨#[0xb1]⟩ 1 none) (by decide +kernel)) rfl (by rw [hml]; exact hl.1) rfl dX2_init_1 (Nat.le_of_ble_eq_true rfl) (Nat.le_of_ble_eq_true rfl) ?_
  refine W.eq (g2 := F0 m 4 ls []) rfl ?_
  refine lv_aload_n hx hb dX2_init_4 rfl (lv_at hl 0 rfl) ?_
  refine lv_bipush (v := 14) hx hb dX2_init_5 (by decide) ?_
  refine fc_newq hx hb hown (hts (.classLink RX2 9 RX5) (by decide +kernel)) hAO hK hP hD hS hA (by decide) (N' := 14) (by decide) (by decide) (Nat.le_of_ble_eq_true rfl) (Nat.le_of_ble_eq_true rfl) dX2_init_7 (fun st H hP hD hS => ?_)
  have hP : va_P D vwCl [(hi, .inr (2, [.null, .int 0, .int 0])), (st, .inl (tc 4, 14, .inr (.inr (.inr (.inr (fun _ => none))))))] H := hP
  have hD : va_D A [(hi, .inr (2, [.null, .int 0, .int 0])), (st, .inl (tc 4, 14, .inr (.inr (.inr (.inr (fun _ => none))))))] := hD
  refine va_putF (D := D) (ci := 2) (v := .ref st) (ty := .array (.object "FrameCard$State")) (C := RX2) (T := TX2) (N := 3) hx hb hts iX2_init_X2 tyX2 tyX2_ok nmX2 hown hK hP hD hS 0 rfl rfl 0 (by decide) (hts (.fieldLink RX2 11 "FrameCard$History" "states" "[LFrameCard$State;") (by decide +kernel)) (fun _ h9 => h9) rfl hin rfl (by decide +kernel) rfl rfl (Nat.le_of_ble_eq_true rfl) dX2_init_10 (fun H locs hP hD hS => ?_)
  refine lv_iconst (v := 0) hx hb dX2_init_13 (by decide) ?_
  refine lv_istore_n (lv' := [(1, .int 0), (0, .ref hi)]) hx hb dX2_init_14 rfl hl (by decide) rfl (fun ls hl => ?_)
  have loop : ∀ (k i : Nat) (a : Nat → Nat → Nat), i + k = 14 → ∀ (H : Heap) (locs : List Loc), va_P D vwCl (fcHi tc hi st (paQ a i) 0 0 ++ fcPool tc a (fun _ => mX5_init) i) H → va_D A (fcHi tc hi st (paQ a i) 0 0 ++ fcPool tc a (fun _ => mX5_init) i) → va_S A s.heap H locs → ∀ ls : Array Slot, lv_has ls 2 [(1, .int (nI i)), (0, .ref hi)] → W p l e rmX2_init s m args below meth c H locs (1 + 10 * i) (14 + 471 * i) Q (F0 m 15 ls []) := by
    intro k
    induction k with
    | zero =>
      intro i a hk H locs hP hD hS ls hl
      obtain rfl : i = 14 := by omega
      refine lv_iload_n hx hb dX2_init_15 rfl (lv_at hl 0 rfl) ?_
      refine lv_bipush (v := 14) hx hb dX2_init_16 (by decide) ?_
      refine lv_icmp_ge (tgt := 40) hx hb dX2_init_18 (by decide) (fun _ => ?_) (fun c1 => absurd (show (14 : Int32) ≤ nI 14 from nI_le (a := 14) (Nat.le_refl _) (by decide)) c1)
      exact hret _ _ (st, a) _ _ trivial hP hD hS dX2_init_40
    | succ k ih =>
      intro i a hk H locs hP hD hS ls hl
      have hi14 : i < 14 := by omega
      refine lv_iload_n hx hb dX2_init_15 rfl (lv_at hl 0 rfl) ?_
      refine lv_bipush (v := 14) hx hb dX2_init_16 (by decide) ?_
      refine lv_icmp_ge (tgt := 40) hx hb dX2_init_18 (by decide) (fun c1 => absurd c1 (show ¬ (14 : Int32) ≤ nI i from nI_ge (b := 14) hi14 (by decide))) (fun _ => ?_)
      refine lv_aload_n hx hb dX2_init_21 rfl (lv_at hl 1 rfl) ?_
      refine va_get (D := D) (ci := 2) (v := .ref st) (C := RX2) (T := TX2) (N := 3) hx hb hts iX2_init_X2 hown hK hP 0 rfl rfl 0 (by decide) (hts (.fieldLink RX2 11 "FrameCard$History" "states" "[LFrameCard$State;") (by decide +kernel)) (fun _ h9 => h9) rfl dX2_init_22 ?_
      refine lv_iload_n hx hb dX2_init_25 rfl (lv_at hl 0 rfl) ?_
      refine va_new (ci := 5) (fs := [.null, .null, .null, .null, .null, .int 0, .int 0, .int 0, .int 0, .int 0, .int 0]) (C := RX5) (T := TX5) (N := 11) hx hb hts iX2_init_X5 tyX5 tyX5_ok hown (hts (.classLink RX2 9 RX5) (by decide +kernel)) (hts (.instantiable RX5 11) (by decide +kernel)) (hts (.initialized RX5) (by decide +kernel)) hK hP hD hS hA rfl (fun j hj => by rcases (show j = 0 ∨ j = 1 ∨ j = 2 ∨ j = 3 ∨ j = 4 ∨ j = 5 ∨ j = 6 ∨ j = 7 ∨ j = 8 ∨ j = 9 ∨ j = 10 by omega) with rfl | rfl | rfl | rfl | rfl | rfl | rfl | rfl | rfl | rfl | rfl <;> rfl) (by show 1 + 10 * i + 1 ≤ 141; omega) (by show 14 + 471 * i + 11 ≤ 6608; omega) dX2_init_26 (fun q H hP hD hS => ?_)
      have hP := va_P.swap (a := fcHi tc hi st (paQ a i) 0 0) (b := fcPool tc a (fun _ => mX5_init) i) (c := [(q, .inr (5, [.null, .null, .null, .null, .null, .int 0, .int 0, .int 0, .int 0, .int 0, .int 0]))]) hP
      have hD := va_D.swap (a := fcHi tc hi st (paQ a i) 0 0) (b := fcPool tc a (fun _ => mX5_init) i) (c := [(q, .inr (5, [.null, .null, .null, .null, .null, .int 0, .int 0, .int 0, .int 0, .int 0, .int 0]))]) hD
      refine lv_dup hx hb dX2_init_29 rfl ?_
      refine fc_govQ (isC := [2]) (isR := [0, 1]) (wc := [(q, .inr (5, [.null, .null, .null, .null, .null, .int 0, .int 0, .int 0, .int 0, .int 0, .int 0]))]) (wr := fcHi tc hi st (paQ a i) 0 0) hP hD hS hA rfl rfl (by decide) (by decide) (fc_runI (isC := [2]) (As := []) (rest := [.ref q, .int (nI i), .ref st]) hx hb hml hown hts hK hE hP hD hS hA rfl (by decide) (c_X5_init l D tc q _) (cwI 0 hts gX2_init_X5_init rfl rfl rfl (hts (.initialized RX5) (by decide +kernel)) (hts (.methodLink RX2 17 yX5_init) (by decide +kernel)) (hts (.instanceMethod yX5_init) (by decide +kernel)) rfl hd_X5_initn ⟨Nat.le_of_ble_eq_true rfl, Nat.le_of_ble_eq_true rfl⟩) rfl hl.1 rfl (Nat.le_of_ble_eq_true rfl) dX2_init_30 ⟨by show 1 + 10 * i + 1 + 9 ≤ 141; omega, by show 14 + 471 * i + 11 + 460 ≤ 6608; omega⟩) (fun u H locs hw hP hD hS => ?_)
      have eS := congrArg (fcSw tc (pa10 q u.1 u.2.1 u.2.2.1 u.2.2.2.1 u.2.2.2.2.1 u.2.2.2.2.2.1 u.2.2.2.2.2.2.1 u.2.2.2.2.2.2.2.1 u.2.2.2.2.2.2.2.2.1)) hw
      have hP : va_P D vwCl ((fcHi tc hi st (paQ a i) 0 0 ++ fcSw tc (pa10 q u.1 u.2.1 u.2.2.1 u.2.2.2.1 u.2.2.2.2.1 u.2.2.2.2.2.1 u.2.2.2.2.2.2.1 u.2.2.2.2.2.2.2.1 u.2.2.2.2.2.2.2.2.1) (u.2.2.2.2.2.2.2.2.2)) ++ fcPool tc a (fun _ => mX5_init) i) H := hP
      have hD : va_D A ((fcHi tc hi st (paQ a i) 0 0 ++ fcSw tc (pa10 q u.1 u.2.1 u.2.2.1 u.2.2.2.1 u.2.2.2.2.1 u.2.2.2.2.2.1 u.2.2.2.2.2.2.1 u.2.2.2.2.2.2.2.1 u.2.2.2.2.2.2.2.2.1) (u.2.2.2.2.2.2.2.2.2)) ++ fcPool tc a (fun _ => mX5_init) i) := hD
      generalize hz : pa10 q u.1 u.2.1 u.2.2.1 u.2.2.2.1 u.2.2.2.2.1 u.2.2.2.2.2.1 u.2.2.2.2.2.2.1 u.2.2.2.2.2.2.2.1 u.2.2.2.2.2.2.2.2.1 = z at hP hD eS
      have hz0 : z 0 = q := by rw [← hz]; rfl
      rw [← eS] at hP hD
      refine va_astq (D := D) (r := (RX5, TX5, 11)) (v := q) hx hb hK hP hD hS 1 4 2 5 rfl rfl (by rw [← hz0]; rfl) rfl (by rw [vp_in_iff, fc_nI (by omega)]; omega) dX2_init_33 (fun H locs hP hD hS => ?_)
      refine lv_iinc (v := nI (i + 1)) (lv' := [(1, .int (nI (i + 1))), (0, .ref hi)]) hx hb dX2_init_34 hl (k := 0) rfl (nI_1 i) (by decide) rfl (fun ls hl => ?_)
      refine lv_goto (tgt := 15) hx hb dX2_init_37 (by decide) ?_
      have ep : fcPool tc (fun j => if j = i then z else a j) (fun _ => mX5_init) (i + 1) = fcPool tc a (fun _ => mX5_init) i ++ fcSw tc z mX5_init := by
        show fcPool tc (fun j => if j = i then z else a j) (fun _ => mX5_init) i ++ fcSw tc (if i = i then z else a i) mX5_init = _
        rw [if_pos rfl, fcPool_cong (a' := a) (v' := fun _ => mX5_init) (fun j hj => ⟨if_neg (by omega), rfl⟩)]
      have eq1 : va_up (paQ a i) (nI i).toNatClampNeg (some q) = paQ (fun j => if j = i then z else a j) (i + 1) := by
        rw [nI_clamp (by omega), ← hz0]; exact paQ_s
      have hP : va_P D vwCl ((fcHi tc hi st (va_up (paQ a i) (nI i).toNatClampNeg (some q)) 0 0 ++ fcSw tc z mX5_init) ++ fcPool tc a (fun _ => mX5_init) i) H := hP
      have hD : va_D A ((fcHi tc hi st (va_up (paQ a i) (nI i).toNatClampNeg (some q)) 0 0 ++ fcSw tc z mX5_init) ++ fcPool tc a (fun _ => mX5_init) i) := hD
      have hP := hP.swap
      have hD := hD.swap
      rw [eq1, List.append_assoc, ← ep] at hP hD
      have := ih (i + 1) (fun j => if j = i then z else a j) (by omega) H locs hP hD hS ls hl
      exact W.widen (k := 1 + 10 * (i + 1)) (n := 14 + 471 * (i + 1)) (by omega) (by omega) this
  exact loop 14 0 (fun _ _ => 0) rfl _ _ hP hD hS ls hl
