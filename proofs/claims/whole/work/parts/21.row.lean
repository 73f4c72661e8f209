/-! The reference: small things -/
noncomputable def mX8_in (p0 : Int64) (p1 : Int64) (p2 : Int64) : Int32 :=
  if (lg_cmp p0 p1) < 0 then
    0
  else
    if 0 < (lg_cmp p0 p2) then
      0
    else
      1
abbrev rmX8_in : Room := { frames := 0, cells := 0, slots := 0, locals := 0 }
set_option maxHeartbeats 4000000 in
set_option maxRecDepth 100000 in
theorem c_X8_in (l : Launch) (D : va_G) (tc : Nat → ClassId) (p0 : Int64) (p1 : Int64) (p2 : Int64) (sz : Nat) : Met l yX8_in wsX8_in rmX8_in (va_Pc [.long p0, .long p1, .long p2] (fcB D tc [] sz)) (va_Qi (fun (r : Int32) (_ : Unit) => mX8_in p0 p1 p2 = r) (fun u t => fcO D (va_A [] sz) ((fun (_ : Unit) => []) u) t) (va_A [] sz)) 0 0 (va_A [] sz) := by
  refine fc_ofWz (own := RX8) (cc := cX8_in) (maxL := 6) (W1 := (fun (_ : Unit) => [])) rfl (by decide) rfl (Nat.le_of_ble_eq_true rfl) ?_
  intro p e s m args below meth c A Q hx hb hml hown hts hK hE hP hD hS hA hin hret ls hl
  have hl : lv_has ls 6 [(0, .long p0), (2, .long p1), (4, .long p2)] := hl
  refine lv_lload_n hx hb dX8_in_0 rfl (lv_at hl 0 rfl) ?_
  refine lv_lload_n hx hb dX8_in_1 rfl (lv_at hl 1 rfl) ?_
  refine W.lcmp hx hb dX8_in_2 ?_
  refine lv_if_lt (tgt := 17) hx hb dX8_in_3 (by decide) (fun c_1 => ?_) (fun c_1 => ?_)
  · refine lv_iconst (v := 0) hx hb dX8_in_17 (by decide) ?_
    exact hret _ _ (0) () _ _ (Or.inl rfl) (by rw [mX8_in]; (try dsimp only); rw [if_pos c_1]; (first | done | rfl)) (hP.sub [] rfl) (hD.sub [] (by decide) rfl) hS dX8_in_18
  · refine lv_lload_n hx hb dX8_in_6 rfl (lv_at hl 0 rfl) ?_
    refine lv_lload hx hb dX8_in_7 (lv_at hl 2 rfl) ?_
    refine W.lcmp hx hb dX8_in_9 ?_
    refine lv_if_gt (tgt := 17) hx hb dX8_in_10 (by decide) (fun c_2 => ?_) (fun c_2 => ?_)
    · refine lv_iconst (v := 0) hx hb dX8_in_17 (by decide) ?_
      exact hret _ _ (0) () _ _ (Or.inl rfl) (by rw [mX8_in]; (try dsimp only); rw [if_neg c_1]; rw [if_pos c_2]; (first | done | rfl)) (hP.sub [] rfl) (hD.sub [] (by decide) rfl) hS dX8_in_18
    · refine lv_iconst (v := 1) hx hb dX8_in_13 (by decide) ?_
      refine lv_goto (tgt := 18) hx hb dX8_in_14 (by decide) ?_
      exact hret _ _ (1) () _ _ (Or.inr rfl) (by rw [mX8_in]; (try dsimp only); rw [if_neg c_1]; rw [if_neg c_2]; (first | done | rfl)) (hP.sub [] rfl) (hD.sub [] (by decide) rfl) hS dX8_in_18
noncomputable def mX8_copy_S3 (n0 : Nat) (f : Nat → Int32) (n1 : Nat) (p1 : Int32) (p3 : Int32) (p4 : Int32) (ih_3 : Int32 → (Nat → Int32) → Nat → Int32) (x5h3 : Int32) (gh3 : Nat → Int32) : Nat → Int32 :=
  if p4 ≤ x5h3 then
    gh3
  else
    let g_2 := (upd gh3 ((p3 + x5h3) : Int32).toNatClampNeg (f ((p1 + x5h3) : Int32).toNatClampNeg))
    ih_3 (x5h3 + 1) g_2
noncomputable def mX8_copy_L3 (n0 : Nat) (f : Nat → Int32) (n1 : Nat) (p1 : Int32) (p3 : Int32) (p4 : Int32) (k : Nat) : Int32 → (Nat → Int32) → Nat → Int32 := Nat.rec (motive := fun _ => Int32 → (Nat → Int32) → Nat → Int32) (fun x5h3 gh3 => gh3) (fun _ ih => mX8_copy_S3 n0 f n1 p1 p3 p4 ih) k
theorem mX8_copy_L3_z (n0 : Nat) (f : Nat → Int32) (n1 : Nat) (p1 : Int32) (p3 : Int32) (p4 : Int32) (x5h3 : Int32) (gh3 : Nat → Int32) : mX8_copy_L3 n0 f n1 p1 p3 p4 0 x5h3 gh3 = gh3 := rfl
theorem mX8_copy_L3_s (n0 : Nat) (f : Nat → Int32) (n1 : Nat) (p1 : Int32) (p3 : Int32) (p4 : Int32) (k : Nat) (x5h3 : Int32) (gh3 : Nat → Int32) : mX8_copy_L3 n0 f n1 p1 p3 p4 (k + 1) x5h3 gh3 = mX8_copy_S3 n0 f n1 p1 p3 p4 (mX8_copy_L3 n0 f n1 p1 p3 p4 k) x5h3 gh3 := rfl
noncomputable def mX8_copy (n0 : Nat) (f : Nat → Int32) (n1 : Nat) (g : Nat → Int32) (p1 : Int32) (p3 : Int32) (p4 : Int32) : Nat → Int32 :=
  mX8_copy_L3 n0 f n1 p1 p3 p4 5001 0 g
abbrev rmX8_copy : Room := { frames := 0, cells := 0, slots := 0, locals := 0 }
set_option maxHeartbeats 4000000 in
set_option maxRecDepth 100000 in
theorem c_X8_copy (l : Launch) (D : va_G) (tc : Nat → ClassId) (a0 : Nat) (n0 : Nat) (f : Nat → Int32) (a2 : Nat) (n1 : Nat) (g : Nat → Int32) (p1 : Int32) (p3 : Int32) (p4 : Int32) (sz : Nat) (hn : n0 < 10000 ∧ n1 < 10000) (h1 : 0 ≤ p1.toInt ∧ 0 ≤ p3.toInt) (h4 : p1.toInt + p4.toInt ≤ n0 ∧ p3.toInt + p4.toInt ≤ n1 ∧ p4.toInt ≤ 5000) : Met l yX8_copy wsX8_copy rmX8_copy (va_Pc [.ref a0, .int p1, .ref a2, .int p3, .int p4] (fcB D tc [(a0, .inl (tc 0, n0, .inl f)), (a2, .inl (tc 0, n1, .inl g))] sz)) (va_Qv (fun (u : Nat → Int32) => mX8_copy n0 f n1 g p1 p3 p4 = u) (fun u t => fcO D (va_A [(a0, .inl (tc 0, n0, .inl f)), (a2, .inl (tc 0, n1, .inl g))] sz) ((fun (u : Nat → Int32) => [(a0, .inl (tc 0, n0, .inl f)), (a2, .inl (tc 0, n1, .inl u))]) u) t) (va_A [(a0, .inl (tc 0, n0, .inl f)), (a2, .inl (tc 0, n1, .inl g))] sz)) 0 0 (va_A [(a0, .inl (tc 0, n0, .inl f)), (a2, .inl (tc 0, n1, .inl g))] sz) := by
  refine fc_ofWv (own := RX8) (cc := cX8_copy) (maxL := 6) (W1 := (fun (u : Nat → Int32) => [(a0, .inl (tc 0, n0, .inl f)), (a2, .inl (tc 0, n1, .inl u))])) rfl (by decide) rfl (Nat.le_of_ble_eq_true rfl) ?_
  intro p e s m args below meth c A Q hx hb hml hown hts hK hE hP hD hS hA hin hret ls hl
  have hl : lv_has ls 6 [(0, .ref a0), (1, .int p1), (2, .ref a2), (3, .int p3), (4, .int p4)] := hl
  refine lv_iconst (v := 0) hx hb dX8_copy_0 (by decide) ?_
  refine lv_istore (lv' := [(5, .int 0), (0, .ref a0), (1, .int p1), (2, .ref a2), (3, .int p3), (4, .int p4)]) hx hb dX8_copy_1 hl (by decide) rfl (fun ls hl => ?_)
  have loop_3 : ∀ (k_3 : Nat) (i_3 : Nat) (x5h3 : Int32) (gh3 : Nat → Int32) (hb_3 : x5h3 = nI i_3) (hm_3 : i_3 ≤ 5000 ∧ 5000 < i_3 + k_3) (hI_3 : mX8_copy n0 f n1 g p1 p3 p4 = mX8_copy_L3 n0 f n1 p1 p3 p4 k_3 x5h3 gh3) (H : Heap) (locs : List Loc), va_P D vwCl [(a0, .inl (tc 0, n0, .inl f)), (a2, .inl (tc 0, n1, .inl gh3))] H → va_D A [(a0, .inl (tc 0, n0, .inl f)), (a2, .inl (tc 0, n1, .inl gh3))] → va_S A s.heap H locs → ∀ ls : Array Slot, lv_has ls 6 [(5, .int x5h3), (0, .ref a0), (1, .int p1), (2, .ref a2), (3, .int p3), (4, .int p4)] → W p l e rmX8_copy s m args below meth c H locs 0 0 Q (F0 m 3 ls []) := by
    intro k_3
    induction k_3 with
    | zero =>
      intro i_3 x5h3 gh3 hb_3 hm_3 hI_3 H locs hP hD hS ls hl
      exact absurd hm_3 (by omega)
    | succ k_3 ih_3 =>
      intro i_3 x5h3 gh3 hb_3 hm_3 hI_3 H locs hP hD hS ls hl
      have zz_3 := fc_nI (n := i_3) (by omega)
      rw [← hb_3] at zz_3
      refine lv_iload hx hb dX8_copy_3 (lv_at hl 0 rfl) ?_
      refine lv_iload hx hb dX8_copy_5 (lv_at hl 5 rfl) ?_
      refine lv_icmp_ge (tgt := 28) hx hb dX8_copy_7 (by decide) (fun c_1 => ?_) (fun c_1 => ?_)
      · exact hret _ _ gh3 _ _ (by rw [hI_3, mX8_copy_L3_s, mX8_copy_S3]; (try dsimp only); rw [if_pos c_1]; (first | done | rfl)) (hP.sub [0, 1] rfl) (hD.sub [0, 1] (by decide) rfl) hS dX8_copy_28
      · refine lv_aload_n hx hb dX8_copy_10 rfl (lv_at hl 3 rfl) ?_
        refine lv_iload_n hx hb dX8_copy_11 rfl (lv_at hl 4 rfl) ?_
        refine lv_iload hx hb dX8_copy_12 (lv_at hl 0 rfl) ?_
        refine lv_iadd hx hb dX8_copy_14 ?_
        refine lv_aload_n hx hb dX8_copy_15 rfl (lv_at hl 1 rfl) ?_
        refine lv_iload_n hx hb dX8_copy_16 rfl (lv_at hl 2 rfl) ?_
        refine lv_iload hx hb dX8_copy_17 (lv_at hl 0 rfl) ?_
        refine lv_iadd hx hb dX8_copy_19 ?_
        refine va_iald (D := D) hx hb hK hP 0 0 rfl rfl (by have l_0 : (0 : Int32).toInt = 0 := (by decide); have l_1 : (1 : Int32).toInt = 1 := (by decide); have l_2 : (2 : Int32).toInt = 2 := (by decide); have l_3 : (3 : Int32).toInt = 3 := (by decide); have l_4 : (4 : Int32).toInt = 4 := (by decide); have qc_1 := c_1; (try simp only [fc_le, fc_lt, fc_eq] at qc_1); have a_1 := fc_add (x := p1) (y := x5h3) (by omega) (by omega); rw [vp_in_iff]; omega) dX8_copy_20 ?_
        refine va_iast (D := D) hx hb hK hP hD hS 1 0 rfl rfl (by have l_0 : (0 : Int32).toInt = 0 := (by decide); have l_1 : (1 : Int32).toInt = 1 := (by decide); have l_2 : (2 : Int32).toInt = 2 := (by decide); have l_3 : (3 : Int32).toInt = 3 := (by decide); have l_4 : (4 : Int32).toInt = 4 := (by decide); have qc_1 := c_1; (try simp only [fc_le, fc_lt, fc_eq] at qc_1); have a_1 := fc_add (x := p3) (y := x5h3) (by omega) (by omega); rw [vp_in_iff]; omega) dX8_copy_21 (fun H locs hP hD hS => ?_)
        have hP : va_P D vwCl [(a0, .inl (tc 0, n0, .inl f)), (a2, .inl (tc 0, n1, .inl (upd gh3 ((p3 + x5h3) : Int32).toNatClampNeg (f ((p1 + x5h3) : Int32).toNatClampNeg))))] H := hP
        have hD : va_D A [(a0, .inl (tc 0, n0, .inl f)), (a2, .inl (tc 0, n1, .inl (upd gh3 ((p3 + x5h3) : Int32).toNatClampNeg (f ((p1 + x5h3) : Int32).toNatClampNeg))))] := hD
        obtain ⟨g_2, hw_2⟩ : ∃ z, (upd gh3 ((p3 + x5h3) : Int32).toNatClampNeg (f ((p1 + x5h3) : Int32).toNatClampNeg)) = z := ⟨_, rfl⟩
        rw [hw_2] at hP hD
        refine lv_iinc (v := (x5h3 + 1)) (lv' := [(5, .int (x5h3 + 1)), (0, .ref a0), (1, .int p1), (2, .ref a2), (3, .int p3), (4, .int p4)]) hx hb dX8_copy_22 hl (k := 0) rfl rfl (by decide) rfl (fun ls hl => ?_)
        refine lv_goto (tgt := 3) hx hb dX8_copy_25 (by decide) ?_
        exact ih_3 (i_3 + 1) (x5h3 + 1) g_2 (by rw [hb_3]; exact nI_1 _) (by have l_0 : (0 : Int32).toInt = 0 := (by decide); have l_1 : (1 : Int32).toInt = 1 := (by decide); have l_2 : (2 : Int32).toInt = 2 := (by decide); have l_3 : (3 : Int32).toInt = 3 := (by decide); have l_4 : (4 : Int32).toInt = 4 := (by decide); have qc_1 := c_1; (try simp only [fc_le, fc_lt, fc_eq] at qc_1); skip; omega) (by rw [hI_3, mX8_copy_L3_s, mX8_copy_S3]; (try dsimp only); rw [if_neg c_1]; rw [hw_2]; (try dsimp only); (first | done | rfl)) _ _ (hP.sub [0, 1] rfl) (hD.sub [0, 1] (by decide) rfl) hS ls (lv_sub hl [0, 1, 2, 3, 4, 5] rfl)
  exact loop_3 5001 0 0 g nI_0.symm (by omega) (by rw [mX8_copy]; (first | done | rfl)) _ _ (hP.sub [0, 1] rfl) (hD.sub [0, 1] (by decide) rfl) hS ls (lv_sub hl [0, 1, 2, 3, 4, 5] rfl)
noncomputable def mX8_copy_same_S3 (n0 : Nat) (p1 : Int32) (p3 : Int32) (p4 : Int32) (ih_3 : Int32 → (Nat → Int32) → Nat → Int32) (x5h3 : Int32) (fh3 : Nat → Int32) : Nat → Int32 :=
  if p4 ≤ x5h3 then
    fh3
  else
    let f_2 := (upd fh3 ((p3 + x5h3) : Int32).toNatClampNeg (fh3 ((p1 + x5h3) : Int32).toNatClampNeg))
    ih_3 (x5h3 + 1) f_2
noncomputable def mX8_copy_same_L3 (n0 : Nat) (p1 : Int32) (p3 : Int32) (p4 : Int32) (k : Nat) : Int32 → (Nat → Int32) → Nat → Int32 := Nat.rec (motive := fun _ => Int32 → (Nat → Int32) → Nat → Int32) (fun x5h3 fh3 => fh3) (fun _ ih => mX8_copy_same_S3 n0 p1 p3 p4 ih) k
theorem mX8_copy_same_L3_z (n0 : Nat) (p1 : Int32) (p3 : Int32) (p4 : Int32) (x5h3 : Int32) (fh3 : Nat → Int32) : mX8_copy_same_L3 n0 p1 p3 p4 0 x5h3 fh3 = fh3 := rfl
theorem mX8_copy_same_L3_s (n0 : Nat) (p1 : Int32) (p3 : Int32) (p4 : Int32) (k : Nat) (x5h3 : Int32) (fh3 : Nat → Int32) : mX8_copy_same_L3 n0 p1 p3 p4 (k + 1) x5h3 fh3 = mX8_copy_same_S3 n0 p1 p3 p4 (mX8_copy_same_L3 n0 p1 p3 p4 k) x5h3 fh3 := rfl
noncomputable def mX8_copy_same (n0 : Nat) (f : Nat → Int32) (p1 : Int32) (p3 : Int32) (p4 : Int32) : Nat → Int32 :=
  mX8_copy_same_L3 n0 p1 p3 p4 5001 0 f
abbrev rmX8_copy_same : Room := { frames := 0, cells := 0, slots := 0, locals := 0 }
set_option maxHeartbeats 4000000 in
set_option maxRecDepth 100000 in
theorem c_X8_copy_same (l : Launch) (D : va_G) (tc : Nat → ClassId) (a0 : Nat) (n0 : Nat) (f : Nat → Int32) (p1 : Int32) (p3 : Int32) (p4 : Int32) (sz : Nat) (hn : n0 < 10000) (h1 : 0 ≤ p1.toInt ∧ 0 ≤ p3.toInt) (h4 : p1.toInt + p4.toInt ≤ n0 ∧ p3.toInt + p4.toInt ≤ n0 ∧ p4.toInt ≤ 5000) : Met l yX8_copy wsX8_copy rmX8_copy_same (va_Pc [.ref a0, .int p1, .ref a0, .int p3, .int p4] (fcB D tc [(a0, .inl (tc 0, n0, .inl f))] sz)) (va_Qv (fun (u : Nat → Int32) => mX8_copy_same n0 f p1 p3 p4 = u) (fun u t => fcO D (va_A [(a0, .inl (tc 0, n0, .inl f))] sz) ((fun (u : Nat → Int32) => [(a0, .inl (tc 0, n0, .inl u))]) u) t) (va_A [(a0, .inl (tc 0, n0, .inl f))] sz)) 0 0 (va_A [(a0, .inl (tc 0, n0, .inl f))] sz) := by
  refine fc_ofWv (own := RX8) (cc := cX8_copy) (maxL := 6) (W1 := (fun (u : Nat → Int32) => [(a0, .inl (tc 0, n0, .inl u))])) rfl (by decide) rfl (Nat.le_of_ble_eq_true rfl) ?_
  intro p e s m args below meth c A Q hx hb hml hown hts hK hE hP hD hS hA hin hret ls hl
  have hl : lv_has ls 6 [(0, .ref a0), (1, .int p1), (2, .ref a0), (3, .int p3), (4, .int p4)] := hl
  refine lv_iconst (v := 0) hx hb dX8_copy_0 (by decide) ?_
  refine lv_istore (lv' := [(5, .int 0), (0, .ref a0), (1, .int p1), (2, .ref a0), (3, .int p3), (4, .int p4)]) hx hb dX8_copy_1 hl (by decide) rfl (fun ls hl => ?_)
  have loop_3 : ∀ (k_3 : Nat) (i_3 : Nat) (x5h3 : Int32) (fh3 : Nat → Int32) (hb_3 : x5h3 = nI i_3) (hm_3 : i_3 ≤ 5000 ∧ 5000 < i_3 + k_3) (hI_3 : mX8_copy_same n0 f p1 p3 p4 = mX8_copy_same_L3 n0 p1 p3 p4 k_3 x5h3 fh3) (H : Heap) (locs : List Loc), va_P D vwCl [(a0, .inl (tc 0, n0, .inl fh3))] H → va_D A [(a0, .inl (tc 0, n0, .inl fh3))] → va_S A s.heap H locs → ∀ ls : Array Slot, lv_has ls 6 [(5, .int x5h3), (0, .ref a0), (1, .int p1), (2, .ref a0), (3, .int p3), (4, .int p4)] → W p l e rmX8_copy_same s m args below meth c H locs 0 0 Q (F0 m 3 ls []) := by
    intro k_3
    induction k_3 with
    | zero =>
      intro i_3 x5h3 fh3 hb_3 hm_3 hI_3 H locs hP hD hS ls hl
      exact absurd hm_3 (by omega)
    | succ k_3 ih_3 =>
      intro i_3 x5h3 fh3 hb_3 hm_3 hI_3 H locs hP hD hS ls hl
      have zz_3 := fc_nI (n := i_3) (by omega)
      rw [← hb_3] at zz_3
      refine lv_iload hx hb dX8_copy_3 (lv_at hl 0 rfl) ?_
      refine lv_iload hx hb dX8_copy_5 (lv_at hl 5 rfl) ?_
      refine lv_icmp_ge (tgt := 28) hx hb dX8_copy_7 (by decide) (fun c_1 => ?_) (fun c_1 => ?_)
      · exact hret _ _ fh3 _ _ (by rw [hI_3, mX8_copy_same_L3_s, mX8_copy_same_S3]; (try dsimp only); rw [if_pos c_1]; (first | done | rfl)) (hP.sub [0] rfl) (hD.sub [0] (by decide) rfl) hS dX8_copy_28
      · refine lv_aload_n hx hb dX8_copy_10 rfl (lv_at hl 3 rfl) ?_
        refine lv_iload_n hx hb dX8_copy_11 rfl (lv_at hl 4 rfl) ?_
        refine lv_iload hx hb dX8_copy_12 (lv_at hl 0 rfl) ?_
        refine lv_iadd hx hb dX8_copy_14 ?_
        refine lv_aload_n hx hb dX8_copy_15 rfl (lv_at hl 1 rfl) ?_
        refine lv_iload_n hx hb dX8_copy_16 rfl (lv_at hl 2 rfl) ?_
        refine lv_iload hx hb dX8_copy_17 (lv_at hl 0 rfl) ?_
        refine lv_iadd hx hb dX8_copy_19 ?_
        refine va_iald (D := D) hx hb hK hP 0 0 rfl rfl (by have l_0 : (0 : Int32).toInt = 0 := (by decide); have l_1 : (1 : Int32).toInt = 1 := (by decide); have l_2 : (2 : Int32).toInt = 2 := (by decide); have l_3 : (3 : Int32).toInt = 3 := (by decide); have l_4 : (4 : Int32).toInt = 4 := (by decide); have qc_1 := c_1; (try simp only [fc_le, fc_lt, fc_eq] at qc_1); have a_1 := fc_add (x := p1) (y := x5h3) (by omega) (by omega); rw [vp_in_iff]; omega) dX8_copy_20 ?_
        refine va_iast (D := D) hx hb hK hP hD hS 0 0 rfl rfl (by have l_0 : (0 : Int32).toInt = 0 := (by decide); have l_1 : (1 : Int32).toInt = 1 := (by decide); have l_2 : (2 : Int32).toInt = 2 := (by decide); have l_3 : (3 : Int32).toInt = 3 := (by decide); have l_4 : (4 : Int32).toInt = 4 := (by decide); have qc_1 := c_1; (try simp only [fc_le, fc_lt, fc_eq] at qc_1); have a_1 := fc_add (x := p3) (y := x5h3) (by omega) (by omega); rw [vp_in_iff]; omega) dX8_copy_21 (fun H locs hP hD hS => ?_)
        have hP : va_P D vwCl [(a0, .inl (tc 0, n0, .inl (upd fh3 ((p3 + x5h3) : Int32).toNatClampNeg (fh3 ((p1 + x5h3) : Int32).toNatClampNeg))))] H := hP
        have hD : va_D A [(a0, .inl (tc 0, n0, .inl (upd fh3 ((p3 + x5h3) : Int32).toNatClampNeg (fh3 ((p1 + x5h3) : Int32).toNatClampNeg))))] := hD
        obtain ⟨f_2, hw_2⟩ : ∃ z, (upd fh3 ((p3 + x5h3) : Int32).toNatClampNeg (fh3 ((p1 + x5h3) : Int32).toNatClampNeg)) = z := ⟨_, rfl⟩
        rw [hw_2] at hP hD
        refine lv_iinc (v := (x5h3 + 1)) (lv' := [(5, .int (x5h3 + 1)), (0, .ref a0), (1, .int p1), (2, .ref a0), (3, .int p3), (4, .int p4)]) hx hb dX8_copy_22 hl (k := 0) rfl rfl (by decide) rfl (fun ls hl => ?_)
        refine lv_goto (tgt := 3) hx hb dX8_copy_25 (by decide) ?_
        exact ih_3 (i_3 + 1) (x5h3 + 1) f_2 (by rw [hb_3]; exact nI_1 _) (by have l_0 : (0 : Int32).toInt = 0 := (by decide); have l_1 : (1 : Int32).toInt = 1 := (by decide); have l_2 : (2 : Int32).toInt = 2 := (by decide); have l_3 : (3 : Int32).toInt = 3 := (by decide); have l_4 : (4 : Int32).toInt = 4 := (by decide); have qc_1 := c_1; (try simp only [fc_le, fc_lt, fc_eq] at qc_1); skip; omega) (by rw [hI_3, mX8_copy_same_L3_s, mX8_copy_same_S3]; (try dsimp only); rw [if_neg c_1]; rw [hw_2]; (try dsimp only); (first | done | rfl)) _ _ (hP.sub [0] rfl) (hD.sub [0] (by decide) rfl) hS ls (lv_sub hl [0, 1, 2, 3, 4, 5] rfl)
  exact loop_3 5001 0 0 f nI_0.symm (by omega) (by rw [mX8_copy_same]; (first | done | rfl)) _ _ (hP.sub [0] rfl) (hD.sub [0] (by decide) rfl) hS ls (lv_sub hl [0, 1, 2, 3, 4, 5] rfl)
theorem fx_nn {x : Int32} (h : 0 ≤ x.toInt) : x = nI x.toNatClampNeg ∧ x.toNatClampNeg < 2147483648 ∧ (x.toNatClampNeg : Int) = x.toInt := by
  have h1 := fc_rng x
  have h2 : (x.toNatClampNeg : Int) = x.toInt := by rw [fc_cl]; omega
  refine ⟨?_, by omega, h2⟩
  rw [fc_eq, fc_nI (by omega)]
  omega
theorem fx_cpy_s (f g : Nat → Int32) (a b i : Nat) : upd (va_cpy f g a b i) (b + i) (f (a + i)) = va_cpy f g a b (i + 1) := by
  funext j
  unfold upd va_cpy
  by_cases h : j = b + i
  · subst h
    rw [if_pos rfl, if_pos (by omega)]
    congr 1; omega
  · rw [if_neg h]
    by_cases h1 : b ≤ j ∧ j < b + i
    · rw [if_pos h1, if_pos (by omega)]
    · rw [if_neg h1, if_neg (by omega)]
theorem fx_cpy_0 (f g : Nat → Int32) (a b : Nat) : va_cpy f g a b 0 = g := by
  funext j
  unfold va_cpy
  rw [if_neg (by omega)]
theorem fx_copy_L {n0 n1 a b m : Nat} {f g : Nat → Int32} (ha : a + m < 2147483648) (hb : b + m < 2147483648) : ∀ (k i : Nat), i ≤ m → m < i + k → mX8_copy_L3 n0 f n1 (nI a) (nI b) (nI m) k (nI i) (va_cpy f g a b i) = va_cpy f g a b m := by
  intro k
  induction k with
  | zero => intro i h1 h2; omega
  | succ k ih =>
    intro i h1 h2
    rw [mX8_copy_L3_s, mX8_copy_S3]
    by_cases h : i < m
    · rw [if_neg (fun z => by have := (nI_leI (by omega) (by omega)).mp z; omega)]
      dsimp only
      rw [nI_add, nI_add, nI_clamp (by omega), nI_clamp (by omega), fx_cpy_s, nI_1]
      exact ih (i + 1) (by omega) (by omega)
    · have e : i = m := by omega
      subst e
      rw [if_pos ((nI_leI (by omega) (by omega)).mpr (Nat.le_refl _))]
theorem fx_copy {n0 n1 : Nat} {f g g' : Nat → Int32} {p1 p3 p4 : Int32} (h : mX8_copy n0 f n1 g p1 p3 p4 = g') (h1 : 0 ≤ p1.toInt ∧ p1.toInt ≤ 100000) (h3 : 0 ≤ p3.toInt ∧ p3.toInt ≤ 100000) (h4 : 0 ≤ p4.toInt ∧ p4.toInt ≤ 5000) : g' = va_cpy f g p1.toNatClampNeg p3.toNatClampNeg p4.toNatClampNeg := by
  obtain ⟨e1, l1, z1⟩ := fx_nn h1.1
  obtain ⟨e3, l3, z3⟩ := fx_nn h3.1
  obtain ⟨e4, l4, z4⟩ := fx_nn h4.1
  have := fx_copy_L (n0 := n0) (n1 := n1) (f := f) (g := g) (a := p1.toNatClampNeg) (b := p3.toNatClampNeg) (m := p4.toNatClampNeg) (by omega) (by omega) 5001 0 (by omega) (by omega)
  rw [← e1, ← e3, ← e4, fx_cpy_0] at this
  rw [← h]
  exact this
theorem fx_copyS_L {n0 a b m : Nat} {f : Nat → Int32} (hab : b ≤ a) (ha : a + m < 2147483648) : ∀ (k i : Nat), i ≤ m → m < i + k → mX8_copy_same_L3 n0 (nI a) (nI b) (nI m) k (nI i) (va_cpy f f a b i) = va_cpy f f a b m := by
  intro k
  induction k with
  | zero => intro i h1 h2; omega
  | succ k ih =>
    intro i h1 h2
    rw [mX8_copy_same_L3_s, mX8_copy_same_S3]
    by_cases h : i < m
    · rw [if_neg (fun z => by have := (nI_leI (by omega) (by omega)).mp z; omega)]
      dsimp only
      rw [nI_add, nI_add, nI_clamp (by omega), nI_clamp (by omega)]
      rw [show va_cpy f f a b i (a + i) = f (a + i) from pk_cpy_out (by omega)]
      rw [fx_cpy_s, nI_1]
      exact ih (i + 1) (by omega) (by omega)
    · have e : i = m := by omega
      subst e
      rw [if_pos ((nI_leI (by omega) (by omega)).mpr (Nat.le_refl _))]
/-- a row copied into itself, to the left -/
theorem fx_copy_same {n0 : Nat} {f f' : Nat → Int32} {p1 p3 p4 : Int32} (h : mX8_copy_same n0 f p1 p3 p4 = f') (h1 : p1.toInt ≤ 100000) (h3 : 0 ≤ p3.toInt ∧ p3.toInt ≤ p1.toInt) (h4 : 0 ≤ p4.toInt ∧ p4.toInt ≤ 5000) : f' = va_cpy f f p1.toNatClampNeg p3.toNatClampNeg p4.toNatClampNeg := by
  obtain ⟨e1, l1, z1⟩ := fx_nn (x := p1) (by omega)
  obtain ⟨e3, l3, z3⟩ := fx_nn h3.1
  obtain ⟨e4, l4, z4⟩ := fx_nn h4.1
  have := fx_copyS_L (n0 := n0) (f := f) (a := p1.toNatClampNeg) (b := p3.toNatClampNeg) (m := p4.toNatClampNeg) (by omega) (by omega) 5001 0 (by omega) (by omega)
  rw [← e1, ← e3, ← e4, fx_cpy_0] at this
  rw [← h]
  exact this
noncomputable def mX8_tenTo_S4 (p0 : Int32) (ih_4 : Int64 → Int32 → Int64) (x1h4 : Int64) (x3h4 : Int32) : Int64 :=
  if p0 ≤ x3h4 then
    x1h4
  else
    ih_4 (x1h4 * 10) (x3h4 + 1)
noncomputable def mX8_tenTo_L4 (p0 : Int32) (k : Nat) : Int64 → Int32 → Int64 := Nat.rec (motive := fun _ => Int64 → Int32 → Int64) (fun x1h4 x3h4 => 0) (fun _ ih => mX8_tenTo_S4 p0 ih) k
theorem mX8_tenTo_L4_z (p0 : Int32) (x1h4 : Int64) (x3h4 : Int32) : mX8_tenTo_L4 p0 0 x1h4 x3h4 = 0 := rfl
theorem mX8_tenTo_L4_s (p0 : Int32) (k : Nat) (x1h4 : Int64) (x3h4 : Int32) : mX8_tenTo_L4 p0 (k + 1) x1h4 x3h4 = mX8_tenTo_S4 p0 (mX8_tenTo_L4 p0 k) x1h4 x3h4 := rfl
noncomputable def mX8_tenTo (p0 : Int32) : Int64 :=
  mX8_tenTo_L4 p0 21 1 0
abbrev rmX8_tenTo : Room := { frames := 0, cells := 0, slots := 0, locals := 0 }
set_option maxHeartbeats 4000000 in
set_option maxRecDepth 100000 in
theorem c_X8_tenTo (l : Launch) (D : va_G) (tc : Nat → ClassId) (p0 : Int32) (sz : Nat) (hd : p0.toInt ≤ 20) : Met l yX8_tenTo wsX8_tenTo rmX8_tenTo (va_Pc [.int p0] (fcB D tc [] sz)) (va_Ql (fun (r : Int64) (_ : Unit) => mX8_tenTo p0 = r) (fun u t => fcO D (va_A [] sz) ((fun (_ : Unit) => []) u) t) (va_A [] sz)) 0 0 (va_A [] sz) := by
  refine fc_ofWl (own := RX8) (cc := cX8_tenTo) (maxL := 4) (W1 := (fun (_ : Unit) => [])) rfl (by decide) rfl (Nat.le_of_ble_eq_true rfl) ?_
  intro p e s m args below meth c A Q hx hb hml hown hts hK hE hP hD hS hA hin hret ls hl
  have hl : lv_has ls 4 [(0, .int p0)] := hl
  refine lv_lconst (v := 1) hx hb dX8_tenTo_0 (by decide) ?_
  refine lv_lstore_n (lv' := [(1, .long 1), (0, .int p0)]) hx hb dX8_tenTo_1 rfl hl (by decide) rfl (fun ls hl => ?_)
  refine lv_iconst (v := 0) hx hb dX8_tenTo_2 (by decide) ?_
  refine lv_istore_n (lv' := [(3, .int 0), (1, .long 1), (0, .int p0)]) hx hb dX8_tenTo_3 rfl hl (by decide) rfl (fun ls hl => ?_)
  have loop_4 : ∀ (k_4 : Nat) (i_4 : Nat) (x1h4 : Int64) (x3h4 : Int32) (hb_4 : x3h4 = nI i_4) (hm_4 : i_4 ≤ 20 ∧ 20 < i_4 + k_4) (hI_4 : mX8_tenTo p0 = mX8_tenTo_L4 p0 k_4 x1h4 x3h4) (H : Heap) (locs : List Loc), va_P D vwCl [] H → va_D A [] → va_S A s.heap H locs → ∀ ls : Array Slot, lv_has ls 4 [(3, .int x3h4), (1, .long x1h4), (0, .int p0)] → W p l e rmX8_tenTo s m args below meth c H locs 0 0 Q (F0 m 4 ls []) := by
    intro k_4
    induction k_4 with
    | zero =>
      intro i_4 x1h4 x3h4 hb_4 hm_4 hI_4 H locs hP hD hS ls hl
      exact absurd hm_4 (by omega)
    | succ k_4 ih_4 =>
      intro i_4 x1h4 x3h4 hb_4 hm_4 hI_4 H locs hP hD hS ls hl
      have zz_4 := fc_nI (n := i_4) (by omega)
      rw [← hb_4] at zz_4
      refine lv_iload_n hx hb dX8_tenTo_4 rfl (lv_at hl 0 rfl) ?_
      refine lv_iload_n hx hb dX8_tenTo_5 rfl (lv_at hl 2 rfl) ?_
      refine lv_icmp_ge (tgt := 21) hx hb dX8_tenTo_6 (by decide) (fun c_1 => ?_) (fun c_1 => ?_)
      · refine lv_lload_n hx hb dX8_tenTo_21 rfl (lv_at hl 1 rfl) ?_
        exact hret _ _ (x1h4) () _ _ (by rw [hI_4, mX8_tenTo_L4_s, mX8_tenTo_S4]; (try dsimp only); rw [if_pos c_1]; (first | done | rfl)) (hP.sub [] rfl) (hD.sub [] (by decide) rfl) hS dX8_tenTo_22
      · refine lv_lload_n hx hb dX8_tenTo_9 rfl (lv_at hl 1 rfl) ?_
        refine lv_ldc2 (v := 10) hx hb hown (hts (.constantLong RX8 40 10) (by decide +kernel)) dX8_tenTo_10 ?_
        refine lv_lmul hx hb dX8_tenTo_13 ?_
        refine lv_lstore_n (lv' := [(1, .long (x1h4 * 10)), (3, .int x3h4), (0, .int p0)]) hx hb dX8_tenTo_14 rfl hl (by decide) rfl (fun ls hl => ?_)
        refine lv_iinc (v := (x3h4 + 1)) (lv' := [(3, .int (x3h4 + 1)), (1, .long (x1h4 * 10)), (0, .int p0)]) hx hb dX8_tenTo_15 hl (k := 1) rfl rfl (by decide) rfl (fun ls hl => ?_)
        refine lv_goto (tgt := 4) hx hb dX8_tenTo_18 (by decide) ?_
        exact ih_4 (i_4 + 1) (x1h4 * 10) (x3h4 + 1) (by rw [hb_4]; exact nI_1 _) (by have l_0 : (0 : Int32).toInt = 0 := (by decide); have l_1 : (1 : Int32).toInt = 1 := (by decide); have l_2 : (2 : Int32).toInt = 2 := (by decide); have l_3 : (3 : Int32).toInt = 3 := (by decide); have l_4 : (4 : Int32).toInt = 4 := (by decide); have qc_1 := c_1; (try simp only [fc_le, fc_lt, fc_eq] at qc_1); skip; omega) (by rw [hI_4, mX8_tenTo_L4_s, mX8_tenTo_S4]; (try dsimp only); rw [if_neg c_1]; (first | done | rfl)) _ _ (hP.sub [] rfl) (hD.sub [] (by decide) rfl) hS ls (lv_sub hl [0, 1, 2] rfl)
  exact loop_4 21 0 1 0 nI_0.symm (by omega) (by rw [mX8_tenTo]; (first | done | rfl)) _ _ (hP.sub [] rfl) (hD.sub [] (by decide) rfl) hS ls (lv_sub hl [0, 1, 2] rfl)
noncomputable def mX8_clean_S47 (p1 : Int32) (p2 : Int32) (p3 : Int32) (p4 : Int32) (ih_47 : Int32 → (Nat → Int32) → Nat → Int32) (x5h47 : Int32) (rowh47 : Nat → Int32) : Nat → Int32 :=
  if 48 ≤ x5h47 then
    rowh47
  else
    let row_8 := (upd rowh47 ((19 + x5h47) : Int32).toNatClampNeg (-1))
    ih_47 (x5h47 + 1) row_8
noncomputable def mX8_clean_L47 (p1 : Int32) (p2 : Int32) (p3 : Int32) (p4 : Int32) (k : Nat) : Int32 → (Nat → Int32) → Nat → Int32 := Nat.rec (motive := fun _ => Int32 → (Nat → Int32) → Nat → Int32) (fun x5h47 rowh47 => rowh47) (fun _ ih => mX8_clean_S47 p1 p2 p3 p4 ih) k
theorem mX8_clean_L47_z (p1 : Int32) (p2 : Int32) (p3 : Int32) (p4 : Int32) (x5h47 : Int32) (rowh47 : Nat → Int32) : mX8_clean_L47 p1 p2 p3 p4 0 x5h47 rowh47 = rowh47 := rfl
theorem mX8_clean_L47_s (p1 : Int32) (p2 : Int32) (p3 : Int32) (p4 : Int32) (k : Nat) (x5h47 : Int32) (rowh47 : Nat → Int32) : mX8_clean_L47 p1 p2 p3 p4 (k + 1) x5h47 rowh47 = mX8_clean_S47 p1 p2 p3 p4 (mX8_clean_L47 p1 p2 p3 p4 k) x5h47 rowh47 := rfl
noncomputable def mX8_clean_S3 (p1 : Int32) (p2 : Int32) (p3 : Int32) (p4 : Int32) (ih_3 : Int32 → (Nat → Int32) → Nat → Int32) (x5h3 : Int32) (rowh3 : Nat → Int32) : Nat → Int32 :=
  if 357 ≤ x5h3 then
    let row_2 := (upd rowh3 (0 : Int32).toNatClampNeg p2)
    let row_3 := (upd row_2 (1 : Int32).toNatClampNeg p3)
    let row_4 := (upd row_3 (2 : Int32).toNatClampNeg p4)
    let row_5 := (upd row_4 (3 : Int32).toNatClampNeg p1)
    let row_6 := (upd row_5 (15 : Int32).toNatClampNeg (-1))
    mX8_clean_L47 p1 p2 p3 p4 49 0 row_6
  else
    let row_9 := (upd rowh3 x5h3.toNatClampNeg 0)
    ih_3 (x5h3 + 1) row_9
noncomputable def mX8_clean_L3 (p1 : Int32) (p2 : Int32) (p3 : Int32) (p4 : Int32) (k : Nat) : Int32 → (Nat → Int32) → Nat → Int32 := Nat.rec (motive := fun _ => Int32 → (Nat → Int32) → Nat → Int32) (fun x5h3 rowh3 => rowh3) (fun _ ih => mX8_clean_S3 p1 p2 p3 p4 ih) k
theorem mX8_clean_L3_z (p1 : Int32) (p2 : Int32) (p3 : Int32) (p4 : Int32) (x5h3 : Int32) (rowh3 : Nat → Int32) : mX8_clean_L3 p1 p2 p3 p4 0 x5h3 rowh3 = rowh3 := rfl
theorem mX8_clean_L3_s (p1 : Int32) (p2 : Int32) (p3 : Int32) (p4 : Int32) (k : Nat) (x5h3 : Int32) (rowh3 : Nat → Int32) : mX8_clean_L3 p1 p2 p3 p4 (k + 1) x5h3 rowh3 = mX8_clean_S3 p1 p2 p3 p4 (mX8_clean_L3 p1 p2 p3 p4 k) x5h3 rowh3 := rfl
noncomputable def mX8_clean (row : Nat → Int32) (p1 : Int32) (p2 : Int32) (p3 : Int32) (p4 : Int32) : Nat → Int32 :=
  mX8_clean_L3 p1 p2 p3 p4 358 0 row
abbrev rmX8_clean : Room := { frames := 0, cells := 0, slots := 0, locals := 0 }
set_option maxHeartbeats 4000000 in
set_option maxRecDepth 100000 in
theorem c_X8_clean (l : Launch) (D : va_G) (tc : Nat → ClassId) (rw : Nat) (row : Nat → Int32) (p1 : Int32) (p2 : Int32) (p3 : Int32) (p4 : Int32) (sz : Nat) : Met l yX8_clean wsX8_clean rmX8_clean (va_Pc [.ref rw, .int p1, .int p2, .int p3, .int p4] (fcB D tc [(rw, .inl (tc 0, 357, .inl row))] sz)) (va_Qv (fun (u : Nat → Int32) => mX8_clean row p1 p2 p3 p4 = u) (fun u t => fcO D (va_A [(rw, .inl (tc 0, 357, .inl row))] sz) ((fun (u : Nat → Int32) => [(rw, .inl (tc 0, 357, .inl u))]) u) t) (va_A [(rw, .inl (tc 0, 357, .inl row))] sz)) 0 0 (va_A [(rw, .inl (tc 0, 357, .inl row))] sz) := by
  refine fc_ofWv (own := RX8) (cc := cX8_clean) (maxL := 6) (W1 := (fun (u : Nat → Int32) => [(rw, .inl (tc 0, 357, .inl u))])) rfl (by decide) rfl (Nat.le_of_ble_eq_true rfl) ?_
  intro p e s m args below meth c A Q hx hb hml hown hts hK hE hP hD hS hA hin hret ls hl
  have hl : lv_has ls 6 [(0, .ref rw), (1, .int p1), (2, .int p2), (3, .int p3), (4, .int p4)] := hl
  refine lv_iconst (v := 0) hx hb dX8_clean_0 (by decide) ?_
  refine lv_istore (lv' := [(5, .int 0), (0, .ref rw), (1, .int p1), (2, .int p2), (3, .int p3), (4, .int p4)]) hx hb dX8_clean_1 hl (by decide) rfl (fun ls hl => ?_)
  have loop_3 : ∀ (k_3 : Nat) (i_3 : Nat) (x5h3 : Int32) (rowh3 : Nat → Int32) (hb_3 : x5h3 = nI i_3) (hm_3 : i_3 ≤ 357 ∧ 357 < i_3 + k_3) (hI_3 : mX8_clean row p1 p2 p3 p4 = mX8_clean_L3 p1 p2 p3 p4 k_3 x5h3 rowh3) (H : Heap) (locs : List Loc), va_P D vwCl [(rw, .inl (tc 0, 357, .inl rowh3))] H → va_D A [(rw, .inl (tc 0, 357, .inl rowh3))] → va_S A s.heap H locs → ∀ ls : Array Slot, lv_has ls 6 [(5, .int x5h3), (0, .ref rw), (1, .int p1), (2, .int p2), (3, .int p3), (4, .int p4)] → W p l e rmX8_clean s m args below meth c H locs 0 0 Q (F0 m 3 ls []) := by
    intro k_3
    induction k_3 with
    | zero =>
      intro i_3 x5h3 rowh3 hb_3 hm_3 hI_3 H locs hP hD hS ls hl
      exact absurd hm_3 (by omega)
    | succ k_3 ih_3 =>
      intro i_3 x5h3 rowh3 hb_3 hm_3 hI_3 H locs hP hD hS ls hl
      have zz_3 := fc_nI (n := i_3) (by omega)
      rw [← hb_3] at zz_3
      refine lv_iload hx hb dX8_clean_3 (lv_at hl 0 rfl) ?_
      refine lv_sipush (v := 357) hx hb dX8_clean_5 (by decide) ?_
      refine lv_icmp_ge (tgt := 22) hx hb dX8_clean_8 (by decide) (fun c_1 => ?_) (fun c_1 => ?_)
      · refine lv_aload_n hx hb dX8_clean_22 rfl (lv_at hl 1 rfl) ?_
        refine lv_iconst (v := 0) hx hb dX8_clean_23 (by decide) ?_
        refine lv_iload_n hx hb dX8_clean_24 rfl (lv_at hl 3 rfl) ?_
        refine va_iast (D := D) hx hb hK hP hD hS 0 0 rfl rfl (vp_in_iff.mpr (by decide)) dX8_clean_25 (fun H locs hP hD hS => ?_)
        have hP : va_P D vwCl [(rw, .inl (tc 0, 357, .inl (upd rowh3 (0 : Int32).toNatClampNeg p2)))] H := hP
        have hD : va_D A [(rw, .inl (tc 0, 357, .inl (upd rowh3 (0 : Int32).toNatClampNeg p2)))] := hD
        obtain ⟨row_2, hw_2⟩ : ∃ z, (upd rowh3 (0 : Int32).toNatClampNeg p2) = z := ⟨_, rfl⟩
        rw [hw_2] at hP hD
        refine lv_aload_n hx hb dX8_clean_26 rfl (lv_at hl 1 rfl) ?_
        refine lv_iconst (v := 1) hx hb dX8_clean_27 (by decide) ?_
        refine lv_iload_n hx hb dX8_clean_28 rfl (lv_at hl 4 rfl) ?_
        refine va_iast (D := D) hx hb hK hP hD hS 0 0 rfl rfl (vp_in_iff.mpr (by decide)) dX8_clean_29 (fun H locs hP hD hS => ?_)
        have hP : va_P D vwCl [(rw, .inl (tc 0, 357, .inl (upd row_2 (1 : Int32).toNatClampNeg p3)))] H := hP
        have hD : va_D A [(rw, .inl (tc 0, 357, .inl (upd row_2 (1 : Int32).toNatClampNeg p3)))] := hD
        obtain ⟨row_3, hw_3⟩ : ∃ z, (upd row_2 (1 : Int32).toNatClampNeg p3) = z := ⟨_, rfl⟩
        rw [hw_3] at hP hD
        refine lv_aload_n hx hb dX8_clean_30 rfl (lv_at hl 1 rfl) ?_
        refine lv_iconst (v := 2) hx hb dX8_clean_31 (by decide) ?_
        refine lv_iload hx hb dX8_clean_32 (lv_at hl 5 rfl) ?_
        refine va_iast (D := D) hx hb hK hP hD hS 0 0 rfl rfl (vp_in_iff.mpr (by decide)) dX8_clean_34 (fun H locs hP hD hS => ?_)
        have hP : va_P D vwCl [(rw, .inl (tc 0, 357, .inl (upd row_3 (2 : Int32).toNatClampNeg p4)))] H := hP
        have hD : va_D A [(rw, .inl (tc 0, 357, .inl (upd row_3 (2 : Int32).toNatClampNeg p4)))] := hD
        obtain ⟨row_4, hw_4⟩ : ∃ z, (upd row_3 (2 : Int32).toNatClampNeg p4) = z := ⟨_, rfl⟩
        rw [hw_4] at hP hD
        refine lv_aload_n hx hb dX8_clean_35 rfl (lv_at hl 1 rfl) ?_
        refine lv_iconst (v := 3) hx hb dX8_clean_36 (by decide) ?_
        refine lv_iload_n hx hb dX8_clean_37 rfl (lv_at hl 2 rfl) ?_
        refine va_iast (D := D) hx hb hK hP hD hS 0 0 rfl rfl (vp_in_iff.mpr (by decide)) dX8_clean_38 (fun H locs hP hD hS => ?_)
        have hP : va_P D vwCl [(rw, .inl (tc 0, 357, .inl (upd row_4 (3 : Int32).toNatClampNeg p1)))] H := hP
        have hD : va_D A [(rw, .inl (tc 0, 357, .inl (upd row_4 (3 : Int32).toNatClampNeg p1)))] := hD
        obtain ⟨row_5, hw_5⟩ : ∃ z, (upd row_4 (3 : Int32).toNatClampNeg p1) = z := ⟨_, rfl⟩
        rw [hw_5] at hP hD
        refine lv_aload_n hx hb dX8_clean_39 rfl (lv_at hl 1 rfl) ?_
        refine lv_bipush (v := 15) hx hb dX8_clean_40 (by decide) ?_
        refine lv_iconst (v := (-1)) hx hb dX8_clean_42 (by decide) ?_
        refine va_iast (D := D) hx hb hK hP hD hS 0 0 rfl rfl (vp_in_iff.mpr (by decide)) dX8_clean_43 (fun H locs hP hD hS => ?_)
        have hP : va_P D vwCl [(rw, .inl (tc 0, 357, .inl (upd row_5 (15 : Int32).toNatClampNeg (-1))))] H := hP
        have hD : va_D A [(rw, .inl (tc 0, 357, .inl (upd row_5 (15 : Int32).toNatClampNeg (-1))))] := hD
        obtain ⟨row_6, hw_6⟩ : ∃ z, (upd row_5 (15 : Int32).toNatClampNeg (-1)) = z := ⟨_, rfl⟩
        rw [hw_6] at hP hD
        refine lv_iconst (v := 0) hx hb dX8_clean_44 (by decide) ?_
        refine lv_istore (lv' := [(5, .int 0), (0, .ref rw), (1, .int p1), (2, .int p2), (3, .int p3), (4, .int p4)]) hx hb dX8_clean_45 hl (by decide) rfl (fun ls hl => ?_)
        have loop_47 : ∀ (k_47 : Nat) (i_47 : Nat) (x5h47 : Int32) (rowh47 : Nat → Int32) (hb_47 : x5h47 = nI i_47) (hm_47 : i_47 ≤ 48 ∧ 48 < i_47 + k_47) (hI_47 : mX8_clean row p1 p2 p3 p4 = mX8_clean_L47 p1 p2 p3 p4 k_47 x5h47 rowh47) (H : Heap) (locs : List Loc), va_P D vwCl [(rw, .inl (tc 0, 357, .inl rowh47))] H → va_D A [(rw, .inl (tc 0, 357, .inl rowh47))] → va_S A s.heap H locs → ∀ ls : Array Slot, lv_has ls 6 [(5, .int x5h47), (0, .ref rw), (1, .int p1), (2, .int p2), (3, .int p3), (4, .int p4)] → W p l e rmX8_clean s m args below meth c H locs 0 0 Q (F0 m 47 ls []) := by
          intro k_47
          induction k_47 with
          | zero =>
            intro i_47 x5h47 rowh47 hb_47 hm_47 hI_47 H locs hP hD hS ls hl
            exact absurd hm_47 (by omega)
          | succ k_47 ih_47 =>
            intro i_47 x5h47 rowh47 hb_47 hm_47 hI_47 H locs hP hD hS ls hl
            have zz_47 := fc_nI (n := i_47) (by omega)
            rw [← hb_47] at zz_47
            refine lv_iload hx hb dX8_clean_47 (lv_at hl 0 rfl) ?_
            refine lv_bipush (v := 48) hx hb dX8_clean_49 (by decide) ?_
            refine lv_icmp_ge (tgt := 68) hx hb dX8_clean_51 (by decide) (fun c_7 => ?_) (fun c_7 => ?_)
            · exact hret _ _ rowh47 _ _ (by rw [hI_47, mX8_clean_L47_s, mX8_clean_S47]; (try dsimp only); rw [if_pos c_7]; (first | done | rfl)) (hP.sub [0] rfl) (hD.sub [0] (by decide) rfl) hS dX8_clean_68
            · refine lv_aload_n hx hb dX8_clean_54 rfl (lv_at hl 1 rfl) ?_
              refine lv_bipush (v := 19) hx hb dX8_clean_55 (by decide) ?_
              refine lv_iload hx hb dX8_clean_57 (lv_at hl 0 rfl) ?_
              refine lv_iadd hx hb dX8_clean_59 ?_
              refine lv_iconst (v := (-1)) hx hb dX8_clean_60 (by decide) ?_
              refine va_iast (D := D) hx hb hK hP hD hS 0 0 rfl rfl (by have l_0 : (0 : Int32).toInt = 0 := (by decide); have l_1 : (1 : Int32).toInt = 1 := (by decide); have l_19 : (19 : Int32).toInt = 19 := (by decide); have l_2 : (2 : Int32).toInt = 2 := (by decide); have l_3 : (3 : Int32).toInt = 3 := (by decide); have l_4 : (4 : Int32).toInt = 4 := (by decide); have l_48 : (48 : Int32).toInt = 48 := (by decide); have qc_7 := c_7; (try simp only [fc_le, fc_lt, fc_eq] at qc_7); have a_1 := fc_kadd (x := x5h47) (k := 19) (n := 19) (by decide) (by omega) (by omega); rw [vp_in_iff]; omega) dX8_clean_61 (fun H locs hP hD hS => ?_)
              have hP : va_P D vwCl [(rw, .inl (tc 0, 357, .inl (upd rowh47 ((19 + x5h47) : Int32).toNatClampNeg (-1))))] H := hP
              have hD : va_D A [(rw, .inl (tc 0, 357, .inl (upd rowh47 ((19 + x5h47) : Int32).toNatClampNeg (-1))))] := hD
              obtain ⟨row_8, hw_8⟩ : ∃ z, (upd rowh47 ((19 + x5h47) : Int32).toNatClampNeg (-1)) = z := ⟨_, rfl⟩
              rw [hw_8] at hP hD
              refine lv_iinc (v := (x5h47 + 1)) (lv' := [(5, .int (x5h47 + 1)), (0, .ref rw), (1, .int p1), (2, .int p2), (3, .int p3), (4, .int p4)]) hx hb dX8_clean_62 hl (k := 0) rfl rfl (by decide) rfl (fun ls hl => ?_)
              refine lv_goto (tgt := 47) hx hb dX8_clean_65 (by decide) ?_
              exact ih_47 (i_47 + 1) (x5h47 + 1) row_8 (by rw [hb_47]; exact nI_1 _) (by have l_0 : (0 : Int32).toInt = 0 := (by decide); have l_1 : (1 : Int32).toInt = 1 := (by decide); have l_2 : (2 : Int32).toInt = 2 := (by decide); have l_3 : (3 : Int32).toInt = 3 := (by decide); have l_4 : (4 : Int32).toInt = 4 := (by decide); have l_48 : (48 : Int32).toInt = 48 := (by decide); have qc_7 := c_7; (try simp only [fc_le, fc_lt, fc_eq] at qc_7); skip; omega) (by rw [hI_47, mX8_clean_L47_s, mX8_clean_S47]; (try dsimp only); rw [if_neg c_7]; rw [hw_8]; (try dsimp only); (first | done | rfl)) _ _ (hP.sub [0] rfl) (hD.sub [0] (by decide) rfl) hS ls (lv_sub hl [0, 1, 2, 3, 4, 5] rfl)
        exact loop_47 49 0 0 row_6 nI_0.symm (by omega) (by rw [hI_3, mX8_clean_L3_s, mX8_clean_S3]; (try dsimp only); rw [if_pos c_1]; rw [hw_2]; (try dsimp only); rw [hw_3]; (try dsimp only); rw [hw_4]; (try dsimp only); rw [hw_5]; (try dsimp only); rw [hw_6]; (try dsimp only); (first | done | rfl)) _ _ (hP.sub [0] rfl) (hD.sub [0] (by decide) rfl) hS ls (lv_sub hl [0, 1, 2, 3, 4, 5] rfl)
      · refine lv_aload_n hx hb dX8_clean_11 rfl (lv_at hl 1 rfl) ?_
        refine lv_iload hx hb dX8_clean_12 (lv_at hl 0 rfl) ?_
        refine lv_iconst (v := 0) hx hb dX8_clean_14 (by decide) ?_
        refine va_iast (D := D) hx hb hK hP hD hS 0 0 rfl rfl (by have l_0 : (0 : Int32).toInt = 0 := (by decide); have l_1 : (1 : Int32).toInt = 1 := (by decide); have l_2 : (2 : Int32).toInt = 2 := (by decide); have l_3 : (3 : Int32).toInt = 3 := (by decide); have l_357 : (357 : Int32).toInt = 357 := (by decide); have l_4 : (4 : Int32).toInt = 4 := (by decide); have qc_1 := c_1; (try simp only [fc_le, fc_lt, fc_eq] at qc_1); rw [vp_in_iff]; omega) dX8_clean_15 (fun H locs hP hD hS => ?_)
        have hP : va_P D vwCl [(rw, .inl (tc 0, 357, .inl (upd rowh3 x5h3.toNatClampNeg 0)))] H := hP
        have hD : va_D A [(rw, .inl (tc 0, 357, .inl (upd rowh3 x5h3.toNatClampNeg 0)))] := hD
        obtain ⟨row_9, hw_9⟩ : ∃ z, (upd rowh3 x5h3.toNatClampNeg 0) = z := ⟨_, rfl⟩
        rw [hw_9] at hP hD
        refine lv_iinc (v := (x5h3 + 1)) (lv' := [(5, .int (x5h3 + 1)), (0, .ref rw), (1, .int p1), (2, .int p2), (3, .int p3), (4, .int p4)]) hx hb dX8_clean_16 hl (k := 0) rfl rfl (by decide) rfl (fun ls hl => ?_)
        refine lv_goto (tgt := 3) hx hb dX8_clean_19 (by decide) ?_
        exact ih_3 (i_3 + 1) (x5h3 + 1) row_9 (by rw [hb_3]; exact nI_1 _) (by have l_0 : (0 : Int32).toInt = 0 := (by decide); have l_1 : (1 : Int32).toInt = 1 := (by decide); have l_2 : (2 : Int32).toInt = 2 := (by decide); have l_3 : (3 : Int32).toInt = 3 := (by decide); have l_357 : (357 : Int32).toInt = 357 := (by decide); have l_4 : (4 : Int32).toInt = 4 := (by decide); have qc_1 := c_1; (try simp only [fc_le, fc_lt, fc_eq] at qc_1); skip; omega) (by rw [hI_3, mX8_clean_L3_s, mX8_clean_S3]; (try dsimp only); rw [if_neg c_1]; rw [hw_9]; (try dsimp only); (first | done | rfl)) _ _ (hP.sub [0] rfl) (hD.sub [0] (by decide) rfl) hS ls (lv_sub hl [0, 1, 2, 3, 4, 5] rfl)
  exact loop_3 358 0 0 row nI_0.symm (by omega) (by rw [mX8_clean]; (first | done | rfl)) _ _ (hP.sub [0] rfl) (hD.sub [0] (by decide) rfl) hS ls (lv_sub hl [0, 1, 2, 3, 4, 5] rfl)
noncomputable def mX8_keptAt (p0 : Int32) (p1 : Int32) : Int32 :=
  ((67 + (5 * p0)) + p1)
abbrev rmX8_keptAt : Room := { frames := 0, cells := 0, slots := 0, locals := 0 }
set_option maxHeartbeats 4000000 in
set_option maxRecDepth 100000 in
theorem c_X8_keptAt (l : Launch) (D : va_G) (tc : Nat → ClassId) (p0 : Int32) (p1 : Int32) (sz : Nat) : Met l yX8_keptAt wsX8_keptAt rmX8_keptAt (va_Pc [.int p0, .int p1] (fcB D tc [] sz)) (va_Qi (fun (r : Int32) (_ : Unit) => mX8_keptAt p0 p1 = r) (fun u t => fcO D (va_A [] sz) ((fun (_ : Unit) => []) u) t) (va_A [] sz)) 0 0 (va_A [] sz) := by
  refine fc_ofWi (own := RX8) (cc := cX8_keptAt) (maxL := 2) (W1 := (fun (_ : Unit) => [])) rfl (by decide) rfl (Nat.le_of_ble_eq_true rfl) ?_
  intro p e s m args below meth c A Q hx hb hml hown hts hK hE hP hD hS hA hin hret ls hl
  have hl : lv_has ls 2 [(0, .int p0), (1, .int p1)] := hl
  refine lv_bipush (v := 67) hx hb dX8_keptAt_0 (by decide) ?_
  refine lv_iconst (v := 5) hx hb dX8_keptAt_2 (by decide) ?_
  refine lv_iload_n hx hb dX8_keptAt_3 rfl (lv_at hl 0 rfl) ?_
  refine lv_imul hx hb dX8_keptAt_4 ?_
  refine lv_iadd hx hb dX8_keptAt_5 ?_
  refine lv_iload_n hx hb dX8_keptAt_6 rfl (lv_at hl 1 rfl) ?_
  refine lv_iadd hx hb dX8_keptAt_7 ?_
  exact hret _ _ ((67 + (5 * p0)) + p1) () _ _ (by rw [mX8_keptAt]; (first | done | rfl)) (hP.sub [] rfl) (hD.sub [] (by decide) rfl) hS dX8_keptAt_8
noncomputable def mX8_waitAt (p0 : Int32) (p1 : Int32) : Int32 :=
  ((307 + (4 * p0)) + p1)
abbrev rmX8_waitAt : Room := { frames := 0, cells := 0, slots := 0, locals := 0 }
set_option maxHeartbeats 4000000 in
set_option maxRecDepth 100000 in
theorem c_X8_waitAt (l : Launch) (D : va_G) (tc : Nat → ClassId) (p0 : Int32) (p1 : Int32) (sz : Nat) : Met l yX8_waitAt wsX8_waitAt rmX8_waitAt (va_Pc [.int p0, .int p1] (fcB D tc [] sz)) (va_Qi (fun (r : Int32) (_ : Unit) => mX8_waitAt p0 p1 = r) (fun u t => fcO D (va_A [] sz) ((fun (_ : Unit) => []) u) t) (va_A [] sz)) 0 0 (va_A [] sz) := by
  refine fc_ofWi (own := RX8) (cc := cX8_waitAt) (maxL := 2) (W1 := (fun (_ : Unit) => [])) rfl (by decide) rfl (Nat.le_of_ble_eq_true rfl) ?_
  intro p e s m args below meth c A Q hx hb hml hown hts hK hE hP hD hS hA hin hret ls hl
  have hl : lv_has ls 2 [(0, .int p0), (1, .int p1)] := hl
  refine lv_sipush (v := 307) hx hb dX8_waitAt_0 (by decide) ?_
  refine lv_iconst (v := 4) hx hb dX8_waitAt_3 (by decide) ?_
  refine lv_iload_n hx hb dX8_waitAt_4 rfl (lv_at hl 0 rfl) ?_
  refine lv_imul hx hb dX8_waitAt_5 ?_
  refine lv_iadd hx hb dX8_waitAt_6 ?_
  refine lv_iload_n hx hb dX8_waitAt_7 rfl (lv_at hl 1 rfl) ?_
  refine lv_iadd hx hb dX8_waitAt_8 ?_
  exact hret _ _ ((307 + (4 * p0)) + p1) () _ _ (by rw [mX8_waitAt]; (first | done | rfl)) (hP.sub [] rfl) (hD.sub [] (by decide) rfl) hS dX8_waitAt_9
theorem fx_keptAt {i w r : Int32} (h : mX8_keptAt i w = r) (hi : -100 ≤ i.toInt ∧ i.toInt ≤ 1000) (hw : 0 ≤ w.toInt ∧ w.toInt ≤ 10) : r.toInt = 67 + 5 * i.toInt + w.toInt := by
  subst h
  have l : (67 : Int32).toInt = 67 := by decide
  have a1 := fc_kmul (x := i) (k := 5) (n := 5) (by decide) (by omega) (by omega)
  have a2 := fc_add (x := 67) (y := 5 * i) (by omega) (by omega)
  have a3 := fc_add (x := 67 + 5 * i) (y := w) (by omega) (by omega)
  show (67 + 5 * i + w).toInt = _
  omega
theorem fx_waitAt {i w r : Int32} (h : mX8_waitAt i w = r) (hi : -100 ≤ i.toInt ∧ i.toInt ≤ 1000) (hw : 0 ≤ w.toInt ∧ w.toInt ≤ 10) : r.toInt = 307 + 4 * i.toInt + w.toInt := by
  subst h
  have l : (307 : Int32).toInt = 307 := by decide
  have a1 := fc_kmul (x := i) (k := 4) (n := 4) (by decide) (by omega) (by omega)
  have a2 := fc_add (x := 307) (y := 4 * i) (by omega) (by omega)
  have a3 := fc_add (x := 307 + 4 * i) (y := w) (by omega) (by omega)
  show (307 + 4 * i + w).toInt = _
  omega
noncomputable def mX8_difference_S10 (p0 : Int32) (p1 : Int32) (ih_10 : Int32 → Int32 → Int32 → Int32 → Int32) (x2h10 : Int32) (x3h10 : Int32) (x4h10 : Int32) (x5h10 : Int32) : Int32 :=
  if 6 ≤ x5h10 then
    x2h10
  else
    if 0 ≤ ((x3h10 - x3h10 / 10 * 10) - (x4h10 - x4h10 / 10 * 10)) then
      ih_10 (x2h10 + ((x3h10 - x3h10 / 10 * 10) - (x4h10 - x4h10 / 10 * 10))) (x3h10 / 10) (x4h10 / 10) (x5h10 + 1)
    else
      ih_10 (x2h10 + (-((x3h10 - x3h10 / 10 * 10) - (x4h10 - x4h10 / 10 * 10)))) (x3h10 / 10) (x4h10 / 10) (x5h10 + 1)
noncomputable def mX8_difference_L10 (p0 : Int32) (p1 : Int32) (k : Nat) : Int32 → Int32 → Int32 → Int32 → Int32 := Nat.rec (motive := fun _ => Int32 → Int32 → Int32 → Int32 → Int32) (fun x2h10 x3h10 x4h10 x5h10 => 0) (fun _ ih => mX8_difference_S10 p0 p1 ih) k
theorem mX8_difference_L10_z (p0 : Int32) (p1 : Int32) (x2h10 : Int32) (x3h10 : Int32) (x4h10 : Int32) (x5h10 : Int32) : mX8_difference_L10 p0 p1 0 x2h10 x3h10 x4h10 x5h10 = 0 := rfl
theorem mX8_difference_L10_s (p0 : Int32) (p1 : Int32) (k : Nat) (x2h10 : Int32) (x3h10 : Int32) (x4h10 : Int32) (x5h10 : Int32) : mX8_difference_L10 p0 p1 (k + 1) x2h10 x3h10 x4h10 x5h10 = mX8_difference_S10 p0 p1 (mX8_difference_L10 p0 p1 k) x2h10 x3h10 x4h10 x5h10 := rfl
noncomputable def mX8_difference (p0 : Int32) (p1 : Int32) : Int32 :=
  mX8_difference_L10 p0 p1 7 0 p0 p1 0
abbrev rmX8_difference : Room := { frames := 0, cells := 0, slots := 0, locals := 0 }
set_option maxHeartbeats 4000000 in
set_option maxRecDepth 100000 in
theorem c_X8_difference (l : Launch) (D : va_G) (tc : Nat → ClassId) (p0 : Int32) (p1 : Int32) (sz : Nat) : Met l yX8_difference wsX8_difference rmX8_difference (va_Pc [.int p0, .int p1] (fcB D tc [] sz)) (va_Qi (fun (r : Int32) (_ : Unit) => mX8_difference p0 p1 = r) (fun u t => fcO D (va_A [] sz) ((fun (_ : Unit) => []) u) t) (va_A [] sz)) 0 0 (va_A [] sz) := by
  refine fc_ofWi (own := RX8) (cc := cX8_difference) (maxL := 7) (W1 := (fun (_ : Unit) => [])) rfl (by decide) rfl (Nat.le_of_ble_eq_true rfl) ?_
  intro p e s m args below meth c A Q hx hb hml hown hts hK hE hP hD hS hA hin hret ls hl
  have hl : lv_has ls 7 [(0, .int p0), (1, .int p1)] := hl
  refine lv_iconst (v := 0) hx hb dX8_difference_0 (by decide) ?_
  refine lv_istore_n (lv' := [(2, .int 0), (0, .int p0), (1, .int p1)]) hx hb dX8_difference_1 rfl hl (by decide) rfl (fun ls hl => ?_)
  refine lv_iload_n hx hb dX8_difference_2 rfl (lv_at hl 1 rfl) ?_
  refine lv_istore_n (lv' := [(3, .int p0), (2, .int 0), (0, .int p0), (1, .int p1)]) hx hb dX8_difference_3 rfl hl (by decide) rfl (fun ls hl => ?_)
  refine lv_iload_n hx hb dX8_difference_4 rfl (lv_at hl 3 rfl) ?_
  refine lv_istore (lv' := [(4, .int p1), (3, .int p0), (2, .int 0), (0, .int p0), (1, .int p1)]) hx hb dX8_difference_5 hl (by decide) rfl (fun ls hl => ?_)
  refine lv_iconst (v := 0) hx hb dX8_difference_7 (by decide) ?_
  refine lv_istore (lv' := [(5, .int 0), (4, .int p1), (3, .int p0), (2, .int 0), (0, .int p0), (1, .int p1)]) hx hb dX8_difference_8 hl (by decide) rfl (fun ls hl => ?_)
  have loop_10 : ∀ (k_10 : Nat) (i_10 : Nat) (x2h10 : Int32) (x3h10 : Int32) (x4h10 : Int32) (x5h10 : Int32) (hb_10 : x5h10 = nI i_10) (hm_10 : i_10 ≤ 6 ∧ 6 < i_10 + k_10) (hI_10 : mX8_difference p0 p1 = mX8_difference_L10 p0 p1 k_10 x2h10 x3h10 x4h10 x5h10) (H : Heap) (locs : List Loc), va_P D vwCl [] H → va_D A [] → va_S A s.heap H locs → ∀ ls : Array Slot, lv_has ls 7 [(5, .int x5h10), (4, .int x4h10), (3, .int x3h10), (2, .int x2h10), (0, .int p0), (1, .int p1)] → W p l e rmX8_difference s m args below meth c H locs 0 0 Q (F0 m 10 ls []) := by
    intro k_10
    induction k_10 with
    | zero =>
      intro i_10 x2h10 x3h10 x4h10 x5h10 hb_10 hm_10 hI_10 H locs hP hD hS ls hl
      exact absurd hm_10 (by omega)
    | succ k_10 ih_10 =>
      intro i_10 x2h10 x3h10 x4h10 x5h10 hb_10 hm_10 hI_10 H locs hP hD hS ls hl
      have zz_10 := fc_nI (n := i_10) (by omega)
      rw [← hb_10] at zz_10
      refine lv_iload hx hb dX8_difference_10 (lv_at hl 0 rfl) ?_
      refine lv_bipush (v := 6) hx hb dX8_difference_12 (by decide) ?_
      refine lv_icmp_ge (tgt := 63) hx hb dX8_difference_14 (by decide) (fun c_1 => ?_) (fun c_1 => ?_)
      · refine lv_iload_n hx hb dX8_difference_63 rfl (lv_at hl 3 rfl) ?_
        exact hret _ _ (x2h10) () _ _ (by rw [hI_10, mX8_difference_L10_s, mX8_difference_S10]; (try dsimp only); rw [if_pos c_1]; (first | done | rfl)) (hP.sub [] rfl) (hD.sub [] (by decide) rfl) hS dX8_difference_64
      · refine lv_iload_n hx hb dX8_difference_17 rfl (lv_at hl 2 rfl) ?_
        refine lv_bipush (v := 10) hx hb dX8_difference_18 (by decide) ?_
        refine lv_irem hx hb dX8_difference_20 (by decide) ?_
        refine lv_iload hx hb dX8_difference_21 (lv_at hl 1 rfl) ?_
        refine lv_bipush (v := 10) hx hb dX8_difference_23 (by decide) ?_
        refine lv_irem hx hb dX8_difference_25 (by decide) ?_
        refine lv_isub hx hb dX8_difference_26 ?_
        refine lv_istore (lv' := [(6, .int ((x3h10 - x3h10 / 10 * 10) - (x4h10 - x4h10 / 10 * 10))), (5, .int x5h10), (4, .int x4h10), (3, .int x3h10), (2, .int x2h10), (0, .int p0), (1, .int p1)]) hx hb dX8_difference_27 hl (by decide) rfl (fun ls hl => ?_)
        refine lv_iload_n hx hb dX8_difference_29 rfl (lv_at hl 4 rfl) ?_
        refine lv_iload hx hb dX8_difference_30 (lv_at hl 0 rfl) ?_
        refine lv_if_ge (tgt := 41) hx hb dX8_difference_32 (by decide) (fun c_2 => ?_) (fun c_2 => ?_)
        · refine lv_iload hx hb dX8_difference_41 (lv_at hl 0 rfl) ?_
          refine lv_iadd hx hb dX8_difference_43 ?_
          refine lv_istore_n (lv' := [(2, .int (x2h10 + ((x3h10 - x3h10 / 10 * 10) - (x4h10 - x4h10 / 10 * 10)))), (6, .int ((x3h10 - x3h10 / 10 * 10) - (x4h10 - x4h10 / 10 * 10))), (5, .int x5h10), (4, .int x4h10), (3, .int x3h10), (0, .int p0), (1, .int p1)]) hx hb dX8_difference_44 rfl hl (by decide) rfl (fun ls hl => ?_)
          refine lv_iload_n hx hb dX8_difference_45 rfl (lv_at hl 4 rfl) ?_
          refine lv_bipush (v := 10) hx hb dX8_difference_46 (by decide) ?_
          refine lv_idiv hx hb dX8_difference_48 (by decide) ?_
          refine lv_istore_n (lv' := [(3, .int (x3h10 / 10)), (2, .int (x2h10 + ((x3h10 - x3h10 / 10 * 10) - (x4h10 - x4h10 / 10 * 10)))), (6, .int ((x3h10 - x3h10 / 10 * 10) - (x4h10 - x4h10 / 10 * 10))), (5, .int x5h10), (4, .int x4h10), (0, .int p0), (1, .int p1)]) hx hb dX8_difference_49 rfl hl (by decide) rfl (fun ls hl => ?_)
          refine lv_iload hx hb dX8_difference_50 (lv_at hl 4 rfl) ?_
          refine lv_bipush (v := 10) hx hb dX8_difference_52 (by decide) ?_
          refine lv_idiv hx hb dX8_difference_54 (by decide) ?_
          refine lv_istore (lv' := [(4, .int (x4h10 / 10)), (3, .int (x3h10 / 10)), (2, .int (x2h10 + ((x3h10 - x3h10 / 10 * 10) - (x4h10 - x4h10 / 10 * 10)))), (6, .int ((x3h10 - x3h10 / 10 * 10) - (x4h10 - x4h10 / 10 * 10))), (5, .int x5h10), (0, .int p0), (1, .int p1)]) hx hb dX8_difference_55 hl (by decide) rfl (fun ls hl => ?_)
          refine lv_iinc (v := (x5h10 + 1)) (lv' := [(5, .int (x5h10 + 1)), (4, .int (x4h10 / 10)), (3, .int (x3h10 / 10)), (2, .int (x2h10 + ((x3h10 - x3h10 / 10 * 10) - (x4h10 - x4h10 / 10 * 10)))), (6, .int ((x3h10 - x3h10 / 10 * 10) - (x4h10 - x4h10 / 10 * 10))), (0, .int p0), (1, .int p1)]) hx hb dX8_difference_57 hl (k := 4) rfl rfl (by decide) rfl (fun ls hl => ?_)
          refine lv_goto (tgt := 10) hx hb dX8_difference_60 (by decide) ?_
          exact ih_10 (i_10 + 1) (x2h10 + ((x3h10 - x3h10 / 10 * 10) - (x4h10 - x4h10 / 10 * 10))) (x3h10 / 10) (x4h10 / 10) (x5h10 + 1) (by rw [hb_10]; exact nI_1 _) (by have l_0 : (0 : Int32).toInt = 0 := (by decide); have l_1 : (1 : Int32).toInt = 1 := (by decide); have l_10 : (10 : Int32).toInt = 10 := (by decide); have l_2 : (2 : Int32).toInt = 2 := (by decide); have l_3 : (3 : Int32).toInt = 3 := (by decide); have l_4 : (4 : Int32).toInt = 4 := (by decide); have l_6 : (6 : Int32).toInt = 6 := (by decide); have qc_1 := c_1; (try simp only [fc_le, fc_lt, fc_eq] at qc_1); have qc_2 := c_2; (try simp only [fc_le, fc_lt, fc_eq] at qc_2); skip; omega) (by rw [hI_10, mX8_difference_L10_s, mX8_difference_S10]; (try dsimp only); rw [if_neg c_1]; rw [if_pos c_2]; (first | done | rfl)) _ _ (hP.sub [] rfl) (hD.sub [] (by decide) rfl) hS ls (lv_sub hl [0, 1, 2, 3, 5, 6] rfl)
        · refine lv_iload hx hb dX8_difference_35 (lv_at hl 0 rfl) ?_
          refine lv_ineg hx hb dX8_difference_37 ?_
          refine lv_goto (tgt := 43) hx hb dX8_difference_38 (by decide) ?_
          refine lv_iadd hx hb dX8_difference_43 ?_
          refine lv_istore_n (lv' := [(2, .int (x2h10 + (-((x3h10 - x3h10 / 10 * 10) - (x4h10 - x4h10 / 10 * 10))))), (6, .int ((x3h10 - x3h10 / 10 * 10) - (x4h10 - x4h10 / 10 * 10))), (5, .int x5h10), (4, .int x4h10), (3, .int x3h10), (0, .int p0), (1, .int p1)]) hx hb dX8_difference_44 rfl hl (by decide) rfl (fun ls hl => ?_)
          refine lv_iload_n hx hb dX8_difference_45 rfl (lv_at hl 4 rfl) ?_
          refine lv_bipush (v := 10) hx hb dX8_difference_46 (by decide) ?_
          refine lv_idiv hx hb dX8_difference_48 (by decide) ?_
          refine lv_istore_n (lv' := [(3, .int (x3h10 / 10)), (2, .int (x2h10 + (-((x3h10 - x3h10 / 10 * 10) - (x4h10 - x4h10 / 10 * 10))))), (6, .int ((x3h10 - x3h10 / 10 * 10) - (x4h10 - x4h10 / 10 * 10))), (5, .int x5h10), (4, .int x4h10), (0, .int p0), (1, .int p1)]) hx hb dX8_difference_49 rfl hl (by decide) rfl (fun ls hl => ?_)
          refine lv_iload hx hb dX8_difference_50 (lv_at hl 4 rfl) ?_
          refine lv_bipush (v := 10) hx hb dX8_difference_52 (by decide) ?_
          refine lv_idiv hx hb dX8_difference_54 (by decide) ?_
          refine lv_istore (lv' := [(4, .int (x4h10 / 10)), (3, .int (x3h10 / 10)), (2, .int (x2h10 + (-((x3h10 - x3h10 / 10 * 10) - (x4h10 - x4h10 / 10 * 10))))), (6, .int ((x3h10 - x3h10 / 10 * 10) - (x4h10 - x4h10 / 10 * 10))), (5, .int x5h10), (0, .int p0), (1, .int p1)]) hx hb dX8_difference_55 hl (by decide) rfl (fun ls hl => ?_)
          refine lv_iinc (v := (x5h10 + 1)) (lv' := [(5, .int (x5h10 + 1)), (4, .int (x4h10 / 10)), (3, .int (x3h10 / 10)), (2, .int (x2h10 + (-((x3h10 - x3h10 / 10 * 10) - (x4h10 - x4h10 / 10 * 10))))), (6, .int ((x3h10 - x3h10 / 10 * 10) - (x4h10 - x4h10 / 10 * 10))), (0, .int p0), (1, .int p1)]) hx hb dX8_difference_57 hl (k := 4) rfl rfl (by decide) rfl (fun ls hl => ?_)
          refine lv_goto (tgt := 10) hx hb dX8_difference_60 (by decide) ?_
          exact ih_10 (i_10 + 1) (x2h10 + (-((x3h10 - x3h10 / 10 * 10) - (x4h10 - x4h10 / 10 * 10)))) (x3h10 / 10) (x4h10 / 10) (x5h10 + 1) (by rw [hb_10]; exact nI_1 _) (by have l_0 : (0 : Int32).toInt = 0 := (by decide); have l_1 : (1 : Int32).toInt = 1 := (by decide); have l_10 : (10 : Int32).toInt = 10 := (by decide); have l_2 : (2 : Int32).toInt = 2 := (by decide); have l_3 : (3 : Int32).toInt = 3 := (by decide); have l_4 : (4 : Int32).toInt = 4 := (by decide); have l_6 : (6 : Int32).toInt = 6 := (by decide); have qc_1 := c_1; (try simp only [fc_le, fc_lt, fc_eq] at qc_1); have qc_2 := c_2; (try simp only [fc_le, fc_lt, fc_eq] at qc_2); skip; omega) (by rw [hI_10, mX8_difference_L10_s, mX8_difference_S10]; (try dsimp only); rw [if_neg c_1]; rw [if_neg c_2]; (first | done | rfl)) _ _ (hP.sub [] rfl) (hD.sub [] (by decide) rfl) hS ls (lv_sub hl [0, 1, 2, 3, 5, 6] rfl)
  exact loop_10 7 0 0 p0 p1 0 nI_0.symm (by omega) (by rw [mX8_difference]; (first | done | rfl)) _ _ (hP.sub [] rfl) (hD.sub [] (by decide) rfl) hS ls (lv_sub hl [0, 1, 2, 3, 4, 5] rfl)
noncomputable def mX8_sizeOf (p0 : Int32) : Int32 :=
  (1 + (p0 / 9))
abbrev rmX8_sizeOf : Room := { frames := 0, cells := 0, slots := 0, locals := 0 }
set_option maxHeartbeats 4000000 in
set_option maxRecDepth 100000 in
theorem c_X8_sizeOf (l : Launch) (D : va_G) (tc : Nat → ClassId) (p0 : Int32) (sz : Nat) : Met l yX8_sizeOf wsX8_sizeOf rmX8_sizeOf (va_Pc [.int p0] (fcB D tc [] sz)) (va_Qi (fun (r : Int32) (_ : Unit) => mX8_sizeOf p0 = r) (fun u t => fcO D (va_A [] sz) ((fun (_ : Unit) => []) u) t) (va_A [] sz)) 0 0 (va_A [] sz) := by
  refine fc_ofWi (own := RX8) (cc := cX8_sizeOf) (maxL := 1) (W1 := (fun (_ : Unit) => [])) rfl (by decide) rfl (Nat.le_of_ble_eq_true rfl) ?_
  intro p e s m args below meth c A Q hx hb hml hown hts hK hE hP hD hS hA hin hret ls hl
  have hl : lv_has ls 1 [(0, .int p0)] := hl
  refine lv_iconst (v := 1) hx hb dX8_sizeOf_0 (by decide) ?_
  refine lv_iload_n hx hb dX8_sizeOf_1 rfl (lv_at hl 0 rfl) ?_
  refine lv_bipush (v := 9) hx hb dX8_sizeOf_2 (by decide) ?_
  refine lv_idiv hx hb dX8_sizeOf_4 (by decide) ?_
  refine lv_iadd hx hb dX8_sizeOf_5 ?_
  exact hret _ _ (1 + (p0 / 9)) () _ _ (by rw [mX8_sizeOf]; (first | done | rfl)) (hP.sub [] rfl) (hD.sub [] (by decide) rfl) hS dX8_sizeOf_6
