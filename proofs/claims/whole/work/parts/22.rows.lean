/-! The reference: rows -/
theorem hd_X8_keptAt : yX8_keptAt.cls = RX8 ∧ yX8_keptAt.cls ≠ "java/lang/invoke/MethodHandle" ∧ yX8_keptAt.cls ≠ "java/lang/invoke/VarHandle" ∧ (parseMethodDescriptor yX8_keptAt.desc).map (fun d => d.parameters.length) = some 2 := by decide +kernel
theorem hd_X8_keptAtn : yX8_keptAt.cls ≠ "java/lang/invoke/MethodHandle" ∧ yX8_keptAt.cls ≠ "java/lang/invoke/VarHandle" ∧ (parseMethodDescriptor yX8_keptAt.desc).map (fun d => d.parameters.length) = some 2 := by decide +kernel
theorem hd_X8_difference : yX8_difference.cls = RX8 ∧ yX8_difference.cls ≠ "java/lang/invoke/MethodHandle" ∧ yX8_difference.cls ≠ "java/lang/invoke/VarHandle" ∧ (parseMethodDescriptor yX8_difference.desc).map (fun d => d.parameters.length) = some 2 := by decide +kernel
theorem hd_X8_differencen : yX8_difference.cls ≠ "java/lang/invoke/MethodHandle" ∧ yX8_difference.cls ≠ "java/lang/invoke/VarHandle" ∧ (parseMethodDescriptor yX8_difference.desc).map (fun d => d.parameters.length) = some 2 := by decide +kernel
noncomputable def mX8_changeOf (row : Nat → Int32) (p1 : Int32) : Int32 :=
  if p1 = 0 then
    (-1)
  else
    let r_2 := mX8_keptAt p1 1
    let r_3 := mX8_keptAt (p1 - 1) 1
    let r_4 := mX8_difference (row r_2.toNatClampNeg) (row r_3.toNatClampNeg)
    r_4
abbrev rmX8_changeOf : Room := { frames := 1, cells := 0, slots := 0, locals := 26 }
set_option maxHeartbeats 4000000 in
set_option maxRecDepth 100000 in
theorem c_X8_changeOf (l : Launch) (D : va_G) (tc : Nat → ClassId) (rw : Nat) (row : Nat → Int32) (p1 : Int32) (sz : Nat) (hi : 0 ≤ p1.toInt ∧ p1.toInt ≤ 60) : Met l yX8_changeOf wsX8_changeOf rmX8_changeOf (va_Pc [.ref rw, .int p1] (fcB D tc [(rw, .inl (tc 0, 357, .inl row))] sz)) (va_Qi (fun (r : Int32) (_ : Unit) => mX8_changeOf row p1 = r) (fun u t => fcO D (va_A [(rw, .inl (tc 0, 357, .inl row))] sz) ((fun (_ : Unit) => [(rw, .inl (tc 0, 357, .inl row))]) u) t) (va_A [(rw, .inl (tc 0, 357, .inl row))] sz)) 0 0 (va_A [(rw, .inl (tc 0, 357, .inl row))] sz) := by
  refine fc_ofWi (own := RX8) (cc := cX8_changeOf) (maxL := 2) (W1 := (fun (_ : Unit) => [(rw, .inl (tc 0, 357, .inl row))])) rfl (by decide) rfl (Nat.le_of_ble_eq_true rfl) ?_
  intro p e s m args below meth c A Q hx hb hml hown hts hK hE hP hD hS hA hin hret ls hl
  have hl : lv_has ls 2 [(0, .ref rw), (1, .int p1)] := hl
  refine lv_iload_n hx hb dX8_changeOf_0 rfl (lv_at hl 1 rfl) ?_
  refine lv_if_ne (tgt := 8) hx hb dX8_changeOf_1 (by decide) (fun c_1 => ?_) (fun c_1 => ?_)
  · refine lv_aload_n hx hb dX8_changeOf_8 rfl (lv_at hl 0 rfl) ?_
    refine lv_iload_n hx hb dX8_changeOf_9 rfl (lv_at hl 1 rfl) ?_
    refine lv_iconst (v := 1) hx hb dX8_changeOf_10 (by decide) ?_
    refine fc_goi (isC := []) (isR := [0]) (wc := []) (wr := [(rw, .inl (tc 0, 357, .inl row))]) hP hD hS hA rfl rfl (by decide) (by decide) (fc_runS (isC := []) (As := [.int p1, .int 1]) (rest := [.ref rw]) hx hb hml hown hts hK hE hP hD hS hA rfl (by decide) (c_X8_keptAt l D tc p1 1 _ ) (cwS 2 hts gX8_changeOf_X8_keptAt rfl rfl rfl hd_X8_keptAt ⟨Nat.le_of_ble_eq_true rfl, Nat.le_of_ble_eq_true rfl⟩) rfl hl.1 rfl (Nat.le_of_ble_eq_true rfl) dX8_changeOf_11 ⟨Nat.le_of_ble_eq_true rfl, Nat.le_of_ble_eq_true rfl⟩) (fun r_2 u_2 H locs hw_2 hP hD hS => ?_)
    try dsimp only at hw_2
    have hP : va_P D vwCl [(rw, .inl (tc 0, 357, .inl row))] H := hP
    have hD : va_D A [(rw, .inl (tc 0, 357, .inl row))] := hD
    have hf_2 := fx_keptAt hw_2 (by omega) (by decide)
    refine va_iald (D := D) hx hb hK hP 0 0 rfl rfl (by have l_0 : (0 : Int32).toInt = 0 := (by decide); have qc_1 := c_1; (try simp only [fc_le, fc_lt, fc_eq] at qc_1); rw [vp_in_iff]; omega) dX8_changeOf_14 ?_
    refine lv_aload_n hx hb dX8_changeOf_15 rfl (lv_at hl 0 rfl) ?_
    refine lv_iload_n hx hb dX8_changeOf_16 rfl (lv_at hl 1 rfl) ?_
    refine lv_iconst (v := 1) hx hb dX8_changeOf_17 (by decide) ?_
    refine lv_isub hx hb dX8_changeOf_18 ?_
    refine lv_iconst (v := 1) hx hb dX8_changeOf_19 (by decide) ?_
    have b1 := fc_subk (x := p1) (k := 1) (n := 1) (by decide) (by omega) (by omega)
    refine fc_goi (isC := []) (isR := [0]) (wc := []) (wr := [(rw, .inl (tc 0, 357, .inl row))]) hP hD hS hA rfl rfl (by decide) (by decide) (fc_runS (isC := []) (As := [.int (p1 - 1), .int 1]) (rest := [.ref rw, .int (row r_2.toNatClampNeg)]) hx hb hml hown hts hK hE hP hD hS hA rfl (by decide) (c_X8_keptAt l D tc (p1 - 1) 1 _ ) (cwS 2 hts gX8_changeOf_X8_keptAt rfl rfl rfl hd_X8_keptAt ⟨Nat.le_of_ble_eq_true rfl, Nat.le_of_ble_eq_true rfl⟩) rfl hl.1 rfl (Nat.le_of_ble_eq_true rfl) dX8_changeOf_20 ⟨Nat.le_of_ble_eq_true rfl, Nat.le_of_ble_eq_true rfl⟩) (fun r_3 u_3 H locs hw_3 hP hD hS => ?_)
    try dsimp only at hw_3
    have hP : va_P D vwCl [(rw, .inl (tc 0, 357, .inl row))] H := hP
    have hD : va_D A [(rw, .inl (tc 0, 357, .inl row))] := hD
    have hf_3 := fx_keptAt hw_3 (by omega) (by decide)
    refine va_iald (D := D) hx hb hK hP 0 0 rfl rfl (by have l_0 : (0 : Int32).toInt = 0 := (by decide); have qc_1 := c_1; (try simp only [fc_le, fc_lt, fc_eq] at qc_1); rw [vp_in_iff]; omega) dX8_changeOf_23 ?_
    refine fc_goi (isC := []) (isR := [0]) (wc := []) (wr := [(rw, .inl (tc 0, 357, .inl row))]) hP hD hS hA rfl rfl (by decide) (by decide) (fc_runS (isC := []) (As := [.int (row r_2.toNatClampNeg), .int (row r_3.toNatClampNeg)]) (rest := []) hx hb hml hown hts hK hE hP hD hS hA rfl (by decide) (c_X8_difference l D tc (row r_2.toNatClampNeg) (row r_3.toNatClampNeg) _ ) (cwS 2 hts gX8_changeOf_X8_difference rfl rfl rfl hd_X8_difference ⟨Nat.le_of_ble_eq_true rfl, Nat.le_of_ble_eq_true rfl⟩) rfl hl.1 rfl (Nat.le_of_ble_eq_true rfl) dX8_changeOf_24 ⟨Nat.le_of_ble_eq_true rfl, Nat.le_of_ble_eq_true rfl⟩) (fun r_4 u_4 H locs hw_4 hP hD hS => ?_)
    try dsimp only at hw_4
    have hP : va_P D vwCl [(rw, .inl (tc 0, 357, .inl row))] H := hP
    have hD : va_D A [(rw, .inl (tc 0, 357, .inl row))] := hD
    exact hret _ _ (r_4) () _ _ (by rw [mX8_changeOf]; (try dsimp only); rw [if_neg c_1]; rw [hw_2]; (try dsimp only); rw [hw_3]; (try dsimp only); rw [hw_4]; (try dsimp only); (first | done | rfl)) (hP.sub [0] rfl) (hD.sub [0] (by decide) rfl) hS dX8_changeOf_27
  · refine lv_iconst (v := (-1)) hx hb dX8_changeOf_4 (by decide) ?_
    refine lv_goto (tgt := 27) hx hb dX8_changeOf_5 (by decide) ?_
    exact hret _ _ (-1) () _ _ (by rw [mX8_changeOf]; (try dsimp only); rw [if_pos c_1]; (first | done | rfl)) (hP.sub [0] rfl) (hD.sub [0] (by decide) rfl) hS dX8_changeOf_27
noncomputable def mX8_count_S4 (row : Nat → Int32) (p1 : Int32) (ih_4 : Int32 → Int32 → Int32) (x2h4 : Int32) (x3h4 : Int32) : Int32 :=
  if (row (3 : Int32).toNatClampNeg) ≤ x3h4 then
    x2h4
  else
    if (row ((19 + x3h4) : Int32).toNatClampNeg) = p1 then
      ih_4 (x2h4 + 1) (x3h4 + 1)
    else
      ih_4 (x2h4 + 0) (x3h4 + 1)
noncomputable def mX8_count_L4 (row : Nat → Int32) (p1 : Int32) (k : Nat) : Int32 → Int32 → Int32 := Nat.rec (motive := fun _ => Int32 → Int32 → Int32) (fun x2h4 x3h4 => 0) (fun _ ih => mX8_count_S4 row p1 ih) k
theorem mX8_count_L4_z (row : Nat → Int32) (p1 : Int32) (x2h4 : Int32) (x3h4 : Int32) : mX8_count_L4 row p1 0 x2h4 x3h4 = 0 := rfl
theorem mX8_count_L4_s (row : Nat → Int32) (p1 : Int32) (k : Nat) (x2h4 : Int32) (x3h4 : Int32) : mX8_count_L4 row p1 (k + 1) x2h4 x3h4 = mX8_count_S4 row p1 (mX8_count_L4 row p1 k) x2h4 x3h4 := rfl
noncomputable def mX8_count (row : Nat → Int32) (p1 : Int32) : Int32 :=
  mX8_count_L4 row p1 49 0 0
abbrev rmX8_count : Room := { frames := 0, cells := 0, slots := 0, locals := 0 }
set_option maxHeartbeats 4000000 in
set_option maxRecDepth 100000 in
theorem c_X8_count (l : Launch) (D : va_G) (tc : Nat → ClassId) (rw : Nat) (row : Nat → Int32) (p1 : Int32) (sz : Nat) (h3 : 8 ≤ (row (3 : Int32).toNatClampNeg).toInt ∧ (row (3 : Int32).toNatClampNeg).toInt ≤ 48) : Met l yX8_count wsX8_count rmX8_count (va_Pc [.ref rw, .int p1] (fcB D tc [(rw, .inl (tc 0, 357, .inl row))] sz)) (va_Qi (fun (r : Int32) (_ : Unit) => mX8_count row p1 = r) (fun u t => fcO D (va_A [(rw, .inl (tc 0, 357, .inl row))] sz) ((fun (_ : Unit) => [(rw, .inl (tc 0, 357, .inl row))]) u) t) (va_A [(rw, .inl (tc 0, 357, .inl row))] sz)) 0 0 (va_A [(rw, .inl (tc 0, 357, .inl row))] sz) := by
  refine fc_ofWi (own := RX8) (cc := cX8_count) (maxL := 4) (W1 := (fun (_ : Unit) => [(rw, .inl (tc 0, 357, .inl row))])) rfl (by decide) rfl (Nat.le_of_ble_eq_true rfl) ?_
  intro p e s m args below meth c A Q hx hb hml hown hts hK hE hP hD hS hA hin hret ls hl
  have hl : lv_has ls 4 [(0, .ref rw), (1, .int p1)] := hl
  refine lv_iconst (v := 0) hx hb dX8_count_0 (by decide) ?_
  refine lv_istore_n (lv' := [(2, .int 0), (0, .ref rw), (1, .int p1)]) hx hb dX8_count_1 rfl hl (by decide) rfl (fun ls hl => ?_)
  refine lv_iconst (v := 0) hx hb dX8_count_2 (by decide) ?_
  refine lv_istore_n (lv' := [(3, .int 0), (2, .int 0), (0, .ref rw), (1, .int p1)]) hx hb dX8_count_3 rfl hl (by decide) rfl (fun ls hl => ?_)
  have loop_4 : ∀ (k_4 : Nat) (i_4 : Nat) (x2h4 : Int32) (x3h4 : Int32) (hb_4 : x3h4 = nI i_4) (hm_4 : i_4 ≤ 48 ∧ 48 < i_4 + k_4) (hI_4 : mX8_count row p1 = mX8_count_L4 row p1 k_4 x2h4 x3h4) (H : Heap) (locs : List Loc), va_P D vwCl [(rw, .inl (tc 0, 357, .inl row))] H → va_D A [(rw, .inl (tc 0, 357, .inl row))] → va_S A s.heap H locs → ∀ ls : Array Slot, lv_has ls 4 [(3, .int x3h4), (2, .int x2h4), (0, .ref rw), (1, .int p1)] → W p l e rmX8_count s m args below meth c H locs 0 0 Q (F0 m 4 ls []) := by
    intro k_4
    induction k_4 with
    | zero =>
      intro i_4 x2h4 x3h4 hb_4 hm_4 hI_4 H locs hP hD hS ls hl
      exact absurd hm_4 (by omega)
    | succ k_4 ih_4 =>
      intro i_4 x2h4 x3h4 hb_4 hm_4 hI_4 H locs hP hD hS ls hl
      have zz_4 := fc_nI (n := i_4) (by omega)
      rw [← hb_4] at zz_4
      refine lv_iload_n hx hb dX8_count_4 rfl (lv_at hl 0 rfl) ?_
      refine lv_aload_n hx hb dX8_count_5 rfl (lv_at hl 2 rfl) ?_
      refine lv_iconst (v := 3) hx hb dX8_count_6 (by decide) ?_
      refine va_iald (D := D) hx hb hK hP 0 0 rfl rfl (vp_in_iff.mpr (by decide)) dX8_count_7 ?_
      refine lv_icmp_ge (tgt := 35) hx hb dX8_count_8 (by decide) (fun c_1 => ?_) (fun c_1 => ?_)
      · refine lv_iload_n hx hb dX8_count_35 rfl (lv_at hl 1 rfl) ?_
        exact hret _ _ (x2h4) () _ _ (by rw [hI_4, mX8_count_L4_s, mX8_count_S4]; (try dsimp only); rw [if_pos c_1]; (first | done | rfl)) (hP.sub [0] rfl) (hD.sub [0] (by decide) rfl) hS dX8_count_36
      · refine lv_iload_n hx hb dX8_count_11 rfl (lv_at hl 1 rfl) ?_
        refine lv_aload_n hx hb dX8_count_12 rfl (lv_at hl 2 rfl) ?_
        refine lv_bipush (v := 19) hx hb dX8_count_13 (by decide) ?_
        refine lv_iload_n hx hb dX8_count_15 rfl (lv_at hl 0 rfl) ?_
        refine lv_iadd hx hb dX8_count_16 ?_
        refine va_iald (D := D) hx hb hK hP 0 0 rfl rfl (by have l_19 : (19 : Int32).toInt = 19 := (by decide); have l_3 : (3 : Int32).toInt = 3 := (by decide); have qc_1 := c_1; (try simp only [fc_le, fc_lt, fc_eq] at qc_1); have a_1 := fc_add (x := 19) (y := x3h4) (by omega) (by omega); rw [vp_in_iff]; omega) dX8_count_17 ?_
        refine lv_iload_n hx hb dX8_count_18 rfl (lv_at hl 3 rfl) ?_
        refine lv_icmp_ne (tgt := 26) hx hb dX8_count_19 (by decide) (fun c_2 => ?_) (fun c_2 => ?_)
        · refine lv_iconst (v := 0) hx hb dX8_count_26 (by decide) ?_
          refine lv_iadd hx hb dX8_count_27 ?_
          refine lv_istore_n (lv' := [(2, .int (x2h4 + 0)), (3, .int x3h4), (0, .ref rw), (1, .int p1)]) hx hb dX8_count_28 rfl hl (by decide) rfl (fun ls hl => ?_)
          refine lv_iinc (v := (x3h4 + 1)) (lv' := [(3, .int (x3h4 + 1)), (2, .int (x2h4 + 0)), (0, .ref rw), (1, .int p1)]) hx hb dX8_count_29 hl (k := 1) rfl rfl (by decide) rfl (fun ls hl => ?_)
          refine lv_goto (tgt := 4) hx hb dX8_count_32 (by decide) ?_
          exact ih_4 (i_4 + 1) (x2h4 + 0) (x3h4 + 1) (by rw [hb_4]; exact nI_1 _) (by have l_19 : (19 : Int32).toInt = 19 := (by decide); have l_3 : (3 : Int32).toInt = 3 := (by decide); have qc_1 := c_1; (try simp only [fc_le, fc_lt, fc_eq] at qc_1); have qc_2 := c_2; (try simp only [fc_le, fc_lt, fc_eq] at qc_2); skip; omega) (by rw [hI_4, mX8_count_L4_s, mX8_count_S4]; (try dsimp only); rw [if_neg c_1]; rw [if_neg c_2]; (first | done | rfl)) _ _ (hP.sub [0] rfl) (hD.sub [0] (by decide) rfl) hS ls (lv_sub hl [0, 1, 2, 3] rfl)
        · refine lv_iconst (v := 1) hx hb dX8_count_22 (by decide) ?_
          refine lv_goto (tgt := 27) hx hb dX8_count_23 (by decide) ?_
          refine lv_iadd hx hb dX8_count_27 ?_
          refine lv_istore_n (lv' := [(2, .int (x2h4 + 1)), (3, .int x3h4), (0, .ref rw), (1, .int p1)]) hx hb dX8_count_28 rfl hl (by decide) rfl (fun ls hl => ?_)
          refine lv_iinc (v := (x3h4 + 1)) (lv' := [(3, .int (x3h4 + 1)), (2, .int (x2h4 + 1)), (0, .ref rw), (1, .int p1)]) hx hb dX8_count_29 hl (k := 1) rfl rfl (by decide) rfl (fun ls hl => ?_)
          refine lv_goto (tgt := 4) hx hb dX8_count_32 (by decide) ?_
          exact ih_4 (i_4 + 1) (x2h4 + 1) (x3h4 + 1) (by rw [hb_4]; exact nI_1 _) (by have l_19 : (19 : Int32).toInt = 19 := (by decide); have l_3 : (3 : Int32).toInt = 3 := (by decide); have qc_1 := c_1; (try simp only [fc_le, fc_lt, fc_eq] at qc_1); have qc_2 := c_2; (try simp only [fc_le, fc_lt, fc_eq] at qc_2); skip; omega) (by rw [hI_4, mX8_count_L4_s, mX8_count_S4]; (try dsimp only); rw [if_neg c_1]; rw [if_pos c_2]; (first | done | rfl)) _ _ (hP.sub [0] rfl) (hD.sub [0] (by decide) rfl) hS ls (lv_sub hl [0, 1, 2, 3] rfl)
  exact loop_4 49 0 0 0 nI_0.symm (by omega) (by rw [mX8_count]; (first | done | rfl)) _ _ (hP.sub [0] rfl) (hD.sub [0] (by decide) rfl) hS ls (lv_sub hl [0, 1, 2, 3] rfl)
theorem hd_X8_changeOf : yX8_changeOf.cls = RX8 ∧ yX8_changeOf.cls ≠ "java/lang/invoke/MethodHandle" ∧ yX8_changeOf.cls ≠ "java/lang/invoke/VarHandle" ∧ (parseMethodDescriptor yX8_changeOf.desc).map (fun d => d.parameters.length) = some 2 := by decide +kernel
theorem hd_X8_changeOfn : yX8_changeOf.cls ≠ "java/lang/invoke/MethodHandle" ∧ yX8_changeOf.cls ≠ "java/lang/invoke/VarHandle" ∧ (parseMethodDescriptor yX8_changeOf.desc).map (fun d => d.parameters.length) = some 2 := by decide +kernel
noncomputable def mX8_leastOf_S19 (row : Nat → Int32) (ih_19 : Int32 → Int32 → Int32) (x1h19 : Int32) (x2h19 : Int32) : Int32 :=
  if (row (16 : Int32).toNatClampNeg) ≤ x2h19 then
    x1h19
  else
    let r_3 := mX8_changeOf row x2h19
    let r_4 := mX8_changeOf row x1h19
    if r_4 ≤ r_3 then
      ih_19 x1h19 (x2h19 + 1)
    else
      ih_19 x2h19 (x2h19 + 1)
noncomputable def mX8_leastOf_L19 (row : Nat → Int32) (k : Nat) : Int32 → Int32 → Int32 := Nat.rec (motive := fun _ => Int32 → Int32 → Int32) (fun x1h19 x2h19 => 0) (fun _ ih => mX8_leastOf_S19 row ih) k
theorem mX8_leastOf_L19_z (row : Nat → Int32) (x1h19 : Int32) (x2h19 : Int32) : mX8_leastOf_L19 row 0 x1h19 x2h19 = 0 := rfl
theorem mX8_leastOf_L19_s (row : Nat → Int32) (k : Nat) (x1h19 : Int32) (x2h19 : Int32) : mX8_leastOf_L19 row (k + 1) x1h19 x2h19 = mX8_leastOf_S19 row (mX8_leastOf_L19 row k) x1h19 x2h19 := rfl
noncomputable def mX8_leastOf (row : Nat → Int32) : Int32 :=
  if 2 ≤ (row (16 : Int32).toNatClampNeg) then
    mX8_leastOf_L19 row 47 1 2
  else
    ((row (16 : Int32).toNatClampNeg) - 1)
abbrev rmX8_leastOf : Room := { frames := 2, cells := 0, slots := 0, locals := 47 }
set_option maxHeartbeats 4000000 in
set_option maxRecDepth 100000 in
theorem c_X8_leastOf (l : Launch) (D : va_G) (tc : Nat → ClassId) (rw : Nat) (row : Nat → Int32) (sz : Nat) (h16 : (row (16 : Int32).toNatClampNeg).toInt ≤ 48) : Met l yX8_leastOf wsX8_leastOf rmX8_leastOf (va_Pc [.ref rw] (fcB D tc [(rw, .inl (tc 0, 357, .inl row))] sz)) (va_Qi (fun (r : Int32) (_ : Unit) => mX8_leastOf row = r) (fun u t => fcO D (va_A [(rw, .inl (tc 0, 357, .inl row))] sz) ((fun (_ : Unit) => [(rw, .inl (tc 0, 357, .inl row))]) u) t) (va_A [(rw, .inl (tc 0, 357, .inl row))] sz)) 0 0 (va_A [(rw, .inl (tc 0, 357, .inl row))] sz) := by
  refine fc_ofWi (own := RX8) (cc := cX8_leastOf) (maxL := 3) (W1 := (fun (_ : Unit) => [(rw, .inl (tc 0, 357, .inl row))])) rfl (by decide) rfl (Nat.le_of_ble_eq_true rfl) ?_
  intro p e s m args below meth c A Q hx hb hml hown hts hK hE hP hD hS hA hin hret ls hl
  have hl : lv_has ls 3 [(0, .ref rw)] := hl
  refine lv_aload_n hx hb dX8_leastOf_0 rfl (lv_at hl 0 rfl) ?_
  refine lv_bipush (v := 16) hx hb dX8_leastOf_1 (by decide) ?_
  refine va_iald (D := D) hx hb hK hP 0 0 rfl rfl (vp_in_iff.mpr (by decide)) dX8_leastOf_3 ?_
  refine lv_iconst (v := 2) hx hb dX8_leastOf_4 (by decide) ?_
  refine lv_icmp_ge (tgt := 15) hx hb dX8_leastOf_5 (by decide) (fun c_1 => ?_) (fun c_1 => ?_)
  · refine lv_iconst (v := 1) hx hb dX8_leastOf_15 (by decide) ?_
    refine lv_istore_n (lv' := [(1, .int 1), (0, .ref rw)]) hx hb dX8_leastOf_16 rfl hl (by decide) rfl (fun ls hl => ?_)
    refine lv_iconst (v := 2) hx hb dX8_leastOf_17 (by decide) ?_
    refine lv_istore_n (lv' := [(2, .int 2), (1, .int 1), (0, .ref rw)]) hx hb dX8_leastOf_18 rfl hl (by decide) rfl (fun ls hl => ?_)
    have loop_19 : ∀ (k_19 : Nat) (i_19 : Nat) (x1h19 : Int32) (x2h19 : Int32) (hb_19 : x2h19 = nI i_19) (hm_19 : i_19 ≤ 48 ∧ 48 < i_19 + k_19) (hx_19 : 0 ≤ x1h19.toInt ∧ x1h19.toInt ≤ 47) (hI_19 : mX8_leastOf row = mX8_leastOf_L19 row k_19 x1h19 x2h19) (H : Heap) (locs : List Loc), va_P D vwCl [(rw, .inl (tc 0, 357, .inl row))] H → va_D A [(rw, .inl (tc 0, 357, .inl row))] → va_S A s.heap H locs → ∀ ls : Array Slot, lv_has ls 3 [(2, .int x2h19), (1, .int x1h19), (0, .ref rw)] → W p l e rmX8_leastOf s m args below meth c H locs 0 0 Q (F0 m 19 ls []) := by
      intro k_19
      induction k_19 with
      | zero =>
        intro i_19 x1h19 x2h19 hb_19 hm_19 hx_19 hI_19 H locs hP hD hS ls hl
        exact absurd hm_19 (by omega)
      | succ k_19 ih_19 =>
        intro i_19 x1h19 x2h19 hb_19 hm_19 hx_19 hI_19 H locs hP hD hS ls hl
        have zz_19 := fc_nI (n := i_19) (by omega)
        rw [← hb_19] at zz_19
        refine lv_iload_n hx hb dX8_leastOf_19 rfl (lv_at hl 0 rfl) ?_
        refine lv_aload_n hx hb dX8_leastOf_20 rfl (lv_at hl 2 rfl) ?_
        refine lv_bipush (v := 16) hx hb dX8_leastOf_21 (by decide) ?_
        refine va_iald (D := D) hx hb hK hP 0 0 rfl rfl (vp_in_iff.mpr (by decide)) dX8_leastOf_23 ?_
        refine lv_icmp_ge (tgt := 52) hx hb dX8_leastOf_24 (by decide) (fun c_2 => ?_) (fun c_2 => ?_)
        · refine lv_iload_n hx hb dX8_leastOf_52 rfl (lv_at hl 1 rfl) ?_
          exact hret _ _ (x1h19) () _ _ (by rw [hI_19, mX8_leastOf_L19_s, mX8_leastOf_S19]; (try dsimp only); rw [if_pos c_2]; (first | done | rfl)) (hP.sub [0] rfl) (hD.sub [0] (by decide) rfl) hS dX8_leastOf_53
        · refine lv_aload_n hx hb dX8_leastOf_27 rfl (lv_at hl 2 rfl) ?_
          refine lv_iload_n hx hb dX8_leastOf_28 rfl (lv_at hl 0 rfl) ?_
          refine fc_goi (isC := [0]) (isR := []) (wc := [(rw, .inl (tc 0, 357, .inl row))]) (wr := []) hP hD hS hA rfl rfl (by decide) (by decide) (fc_runS (isC := [0]) (As := [.ref rw, .int x2h19]) (rest := []) hx hb hml hown hts hK hE hP hD hS hA rfl (by decide) (c_X8_changeOf l D tc rw row x2h19 _ (by have l_16 : (16 : Int32).toInt = 16 := (by decide); have qc_2 := c_2; (try simp only [fc_le, fc_lt, fc_eq] at qc_2); (try simp only [fc_le, fc_lt, fc_eq]); omega)) (cwS 2 hts gX8_leastOf_X8_changeOf rfl rfl rfl hd_X8_changeOf ⟨Nat.le_of_ble_eq_true rfl, Nat.le_of_ble_eq_true rfl⟩) rfl hl.1 rfl (Nat.le_of_ble_eq_true rfl) dX8_leastOf_29 ⟨Nat.le_of_ble_eq_true rfl, Nat.le_of_ble_eq_true rfl⟩) (fun r_3 u_3 H locs hw_3 hP hD hS => ?_)
          try dsimp only at hw_3
          have hP : va_P D vwCl [(rw, .inl (tc 0, 357, .inl row))] H := hP
          have hD : va_D A [(rw, .inl (tc 0, 357, .inl row))] := hD
          refine lv_aload_n hx hb dX8_leastOf_32 rfl (lv_at hl 2 rfl) ?_
          refine lv_iload_n hx hb dX8_leastOf_33 rfl (lv_at hl 1 rfl) ?_
          refine fc_goi (isC := [0]) (isR := []) (wc := [(rw, .inl (tc 0, 357, .inl row))]) (wr := []) hP hD hS hA rfl rfl (by decide) (by decide) (fc_runS (isC := [0]) (As := [.ref rw, .int x1h19]) (rest := [.int r_3]) hx hb hml hown hts hK hE hP hD hS hA rfl (by decide) (c_X8_changeOf l D tc rw row x1h19 _ (by have l_16 : (16 : Int32).toInt = 16 := (by decide); have qc_2 := c_2; (try simp only [fc_le, fc_lt, fc_eq] at qc_2); (try simp only [fc_le, fc_lt, fc_eq]); omega)) (cwS 2 hts gX8_leastOf_X8_changeOf rfl rfl rfl hd_X8_changeOf ⟨Nat.le_of_ble_eq_true rfl, Nat.le_of_ble_eq_true rfl⟩) rfl hl.1 rfl (Nat.le_of_ble_eq_true rfl) dX8_leastOf_34 ⟨Nat.le_of_ble_eq_true rfl, Nat.le_of_ble_eq_true rfl⟩) (fun r_4 u_4 H locs hw_4 hP hD hS => ?_)
          try dsimp only at hw_4
          have hP : va_P D vwCl [(rw, .inl (tc 0, 357, .inl row))] H := hP
          have hD : va_D A [(rw, .inl (tc 0, 357, .inl row))] := hD
          refine lv_icmp_ge (tgt := 44) hx hb dX8_leastOf_37 (by decide) (fun c_5 => ?_) (fun c_5 => ?_)
          · refine lv_iload_n hx hb dX8_leastOf_44 rfl (lv_at hl 1 rfl) ?_
            refine lv_istore_n (lv' := [(1, .int x1h19), (2, .int x2h19), (0, .ref rw)]) hx hb dX8_leastOf_45 rfl hl (by decide) rfl (fun ls hl => ?_)
            refine lv_iinc (v := (x2h19 + 1)) (lv' := [(2, .int (x2h19 + 1)), (1, .int x1h19), (0, .ref rw)]) hx hb dX8_leastOf_46 hl (k := 1) rfl rfl (by decide) rfl (fun ls hl => ?_)
            refine lv_goto (tgt := 19) hx hb dX8_leastOf_49 (by decide) ?_
            exact ih_19 (i_19 + 1) x1h19 (x2h19 + 1) (by rw [hb_19]; exact nI_1 _) (by have l_16 : (16 : Int32).toInt = 16 := (by decide); have qc_2 := c_2; (try simp only [fc_le, fc_lt, fc_eq] at qc_2); have qc_5 := c_5; (try simp only [fc_le, fc_lt, fc_eq] at qc_5); skip; omega) (by have l_16 : (16 : Int32).toInt = 16 := (by decide); have qc_2 := c_2; (try simp only [fc_le, fc_lt, fc_eq] at qc_2); have qc_5 := c_5; (try simp only [fc_le, fc_lt, fc_eq] at qc_5); skip; omega) (by rw [hI_19, mX8_leastOf_L19_s, mX8_leastOf_S19]; (try dsimp only); rw [if_neg c_2]; rw [hw_3]; (try dsimp only); rw [hw_4]; (try dsimp only); rw [if_pos c_5]; (first | done | rfl)) _ _ (hP.sub [0] rfl) (hD.sub [0] (by decide) rfl) hS ls (lv_sub hl [0, 1, 2] rfl)
          · refine lv_iload_n hx hb dX8_leastOf_40 rfl (lv_at hl 0 rfl) ?_
            refine lv_goto (tgt := 45) hx hb dX8_leastOf_41 (by decide) ?_
            refine lv_istore_n (lv' := [(1, .int x2h19), (2, .int x2h19), (0, .ref rw)]) hx hb dX8_leastOf_45 rfl hl (by decide) rfl (fun ls hl => ?_)
            refine lv_iinc (v := (x2h19 + 1)) (lv' := [(2, .int (x2h19 + 1)), (1, .int x2h19), (0, .ref rw)]) hx hb dX8_leastOf_46 hl (k := 1) rfl rfl (by decide) rfl (fun ls hl => ?_)
            refine lv_goto (tgt := 19) hx hb dX8_leastOf_49 (by decide) ?_
            exact ih_19 (i_19 + 1) x2h19 (x2h19 + 1) (by rw [hb_19]; exact nI_1 _) (by have l_16 : (16 : Int32).toInt = 16 := (by decide); have qc_2 := c_2; (try simp only [fc_le, fc_lt, fc_eq] at qc_2); have qc_5 := c_5; (try simp only [fc_le, fc_lt, fc_eq] at qc_5); skip; omega) (by have l_16 : (16 : Int32).toInt = 16 := (by decide); have qc_2 := c_2; (try simp only [fc_le, fc_lt, fc_eq] at qc_2); have qc_5 := c_5; (try simp only [fc_le, fc_lt, fc_eq] at qc_5); skip; omega) (by rw [hI_19, mX8_leastOf_L19_s, mX8_leastOf_S19]; (try dsimp only); rw [if_neg c_2]; rw [hw_3]; (try dsimp only); rw [hw_4]; (try dsimp only); rw [if_neg c_5]; (first | done | rfl)) _ _ (hP.sub [0] rfl) (hD.sub [0] (by decide) rfl) hS ls (lv_sub hl [0, 1, 2] rfl)
    exact loop_19 47 2 1 2 rfl (by omega) (by decide) (by rw [mX8_leastOf]; (try dsimp only); rw [if_pos c_1]; (first | done | rfl)) _ _ (hP.sub [0] rfl) (hD.sub [0] (by decide) rfl) hS ls (lv_sub hl [0, 1, 2] rfl)
  · refine lv_aload_n hx hb dX8_leastOf_8 rfl (lv_at hl 0 rfl) ?_
    refine lv_bipush (v := 16) hx hb dX8_leastOf_9 (by decide) ?_
    refine va_iald (D := D) hx hb hK hP 0 0 rfl rfl (vp_in_iff.mpr (by decide)) dX8_leastOf_11 ?_
    refine lv_iconst (v := 1) hx hb dX8_leastOf_12 (by decide) ?_
    refine lv_isub hx hb dX8_leastOf_13 ?_
    exact hret _ _ ((row (16 : Int32).toNatClampNeg) - 1) () _ _ (by rw [mX8_leastOf]; (try dsimp only); rw [if_neg c_1]; (first | done | rfl)) (hP.sub [0] rfl) (hD.sub [0] (by decide) rfl) hS dX8_leastOf_14
noncomputable def mX8_sweep_S6 (ih_6 : Int32 → Int32 → (Nat → Int32) → Nat → Int32) (x1h6 : Int32) (x2h6 : Int32) (rowh6 : Nat → Int32) : Nat → Int32 :=
  if (rowh6 (3 : Int32).toNatClampNeg) ≤ x2h6 then
    rowh6
  else
    if x1h6 ≤ 0 then
      rowh6
    else
      if (rowh6 ((19 + x2h6) : Int32).toNatClampNeg) = (-2) then
        let row_4 := (upd rowh6 ((19 + x2h6) : Int32).toNatClampNeg (-1))
        ih_6 (x1h6 + (-1)) (x2h6 + 1) row_4
      else
        ih_6 x1h6 (x2h6 + 1) rowh6
noncomputable def mX8_sweep_L6 (k : Nat) : Int32 → Int32 → (Nat → Int32) → Nat → Int32 := Nat.rec (motive := fun _ => Int32 → Int32 → (Nat → Int32) → Nat → Int32) (fun x1h6 x2h6 rowh6 => rowh6) (fun _ ih => mX8_sweep_S6  ih) k
theorem mX8_sweep_L6_z (x1h6 : Int32) (x2h6 : Int32) (rowh6 : Nat → Int32) : mX8_sweep_L6  0 x1h6 x2h6 rowh6 = rowh6 := rfl
theorem mX8_sweep_L6_s (k : Nat) (x1h6 : Int32) (x2h6 : Int32) (rowh6 : Nat → Int32) : mX8_sweep_L6  (k + 1) x1h6 x2h6 rowh6 = mX8_sweep_S6  (mX8_sweep_L6  k) x1h6 x2h6 rowh6 := rfl
noncomputable def mX8_sweep (row : Nat → Int32) : Nat → Int32 :=
  mX8_sweep_L6 49 (row (0 : Int32).toNatClampNeg) 0 row
abbrev rmX8_sweep : Room := { frames := 0, cells := 0, slots := 0, locals := 0 }
set_option maxHeartbeats 4000000 in
set_option maxRecDepth 100000 in
theorem c_X8_sweep (l : Launch) (D : va_G) (tc : Nat → ClassId) (rw : Nat) (row : Nat → Int32) (sz : Nat) (h3 : 8 ≤ (row (3 : Int32).toNatClampNeg).toInt ∧ (row (3 : Int32).toNatClampNeg).toInt ≤ 48) : Met l yX8_sweep wsX8_sweep rmX8_sweep (va_Pc [.ref rw] (fcB D tc [(rw, .inl (tc 0, 357, .inl row))] sz)) (va_Qv (fun (u : Nat → Int32) => mX8_sweep row = u) (fun u t => fcO D (va_A [(rw, .inl (tc 0, 357, .inl row))] sz) ((fun (u : Nat → Int32) => [(rw, .inl (tc 0, 357, .inl u))]) u) t) (va_A [(rw, .inl (tc 0, 357, .inl row))] sz)) 0 0 (va_A [(rw, .inl (tc 0, 357, .inl row))] sz) := by
  refine fc_ofWv (own := RX8) (cc := cX8_sweep) (maxL := 3) (W1 := (fun (u : Nat → Int32) => [(rw, .inl (tc 0, 357, .inl u))])) rfl (by decide) rfl (Nat.le_of_ble_eq_true rfl) ?_
  intro p e s m args below meth c A Q hx hb hml hown hts hK hE hP hD hS hA hin hret ls hl
  have hl : lv_has ls 3 [(0, .ref rw)] := hl
  refine lv_aload_n hx hb dX8_sweep_0 rfl (lv_at hl 0 rfl) ?_
  refine lv_iconst (v := 0) hx hb dX8_sweep_1 (by decide) ?_
  refine va_iald (D := D) hx hb hK hP 0 0 rfl rfl (vp_in_iff.mpr (by decide)) dX8_sweep_2 ?_
  refine lv_istore_n (lv' := [(1, .int (row (0 : Int32).toNatClampNeg)), (0, .ref rw)]) hx hb dX8_sweep_3 rfl hl (by decide) rfl (fun ls hl => ?_)
  refine lv_iconst (v := 0) hx hb dX8_sweep_4 (by decide) ?_
  refine lv_istore_n (lv' := [(2, .int 0), (1, .int (row (0 : Int32).toNatClampNeg)), (0, .ref rw)]) hx hb dX8_sweep_5 rfl hl (by decide) rfl (fun ls hl => ?_)
  have loop_6 : ∀ (k_6 : Nat) (i_6 : Nat) (x1h6 : Int32) (x2h6 : Int32) (rowh6 : Nat → Int32) (hb_6 : x2h6 = nI i_6) (hm_6 : i_6 ≤ 48 ∧ 48 < i_6 + k_6) (w3_6 : (rowh6 (3 : Int32).toNatClampNeg).toInt = (row (3 : Int32).toNatClampNeg).toInt) (hI_6 : mX8_sweep row = mX8_sweep_L6 k_6 x1h6 x2h6 rowh6) (H : Heap) (locs : List Loc), va_P D vwCl [(rw, .inl (tc 0, 357, .inl rowh6))] H → va_D A [(rw, .inl (tc 0, 357, .inl rowh6))] → va_S A s.heap H locs → ∀ ls : Array Slot, lv_has ls 3 [(2, .int x2h6), (1, .int x1h6), (0, .ref rw)] → W p l e rmX8_sweep s m args below meth c H locs 0 0 Q (F0 m 6 ls []) := by
    intro k_6
    induction k_6 with
    | zero =>
      intro i_6 x1h6 x2h6 rowh6 hb_6 hm_6 w3_6 hI_6 H locs hP hD hS ls hl
      exact absurd hm_6 (by omega)
    | succ k_6 ih_6 =>
      intro i_6 x1h6 x2h6 rowh6 hb_6 hm_6 w3_6 hI_6 H locs hP hD hS ls hl
      have zz_6 := fc_nI (n := i_6) (by omega)
      rw [← hb_6] at zz_6
      refine lv_iload_n hx hb dX8_sweep_6 rfl (lv_at hl 0 rfl) ?_
      refine lv_aload_n hx hb dX8_sweep_7 rfl (lv_at hl 2 rfl) ?_
      refine lv_iconst (v := 3) hx hb dX8_sweep_8 (by decide) ?_
      refine va_iald (D := D) hx hb hK hP 0 0 rfl rfl (vp_in_iff.mpr (by decide)) dX8_sweep_9 ?_
      refine lv_icmp_ge (tgt := 44) hx hb dX8_sweep_10 (by decide) (fun c_1 => ?_) (fun c_1 => ?_)
      · exact hret _ _ rowh6 _ _ (by rw [hI_6, mX8_sweep_L6_s, mX8_sweep_S6]; (try dsimp only); rw [if_pos c_1]; (first | done | rfl)) (hP.sub [0] rfl) (hD.sub [0] (by decide) rfl) hS dX8_sweep_44
      · refine lv_iload_n hx hb dX8_sweep_13 rfl (lv_at hl 1 rfl) ?_
        refine lv_if_le (tgt := 44) hx hb dX8_sweep_14 (by decide) (fun c_2 => ?_) (fun c_2 => ?_)
        · exact hret _ _ rowh6 _ _ (by rw [hI_6, mX8_sweep_L6_s, mX8_sweep_S6]; (try dsimp only); rw [if_neg c_1]; rw [if_pos c_2]; (first | done | rfl)) (hP.sub [0] rfl) (hD.sub [0] (by decide) rfl) hS dX8_sweep_44
        · refine lv_aload_n hx hb dX8_sweep_17 rfl (lv_at hl 2 rfl) ?_
          refine lv_bipush (v := 19) hx hb dX8_sweep_18 (by decide) ?_
          refine lv_iload_n hx hb dX8_sweep_20 rfl (lv_at hl 0 rfl) ?_
          refine lv_iadd hx hb dX8_sweep_21 ?_
          refine va_iald (D := D) hx hb hK hP 0 0 rfl rfl (by have l_0 : (0 : Int32).toInt = 0 := (by decide); have l_19 : (19 : Int32).toInt = 19 := (by decide); have l_3 : (3 : Int32).toInt = 3 := (by decide); have qc_1 := c_1; (try simp only [fc_le, fc_lt, fc_eq] at qc_1); have qc_2 := c_2; (try simp only [fc_le, fc_lt, fc_eq] at qc_2); have a_1 := fc_add (x := 19) (y := x2h6) (by omega) (by omega); rw [vp_in_iff]; omega) dX8_sweep_22 ?_
          refine lv_bipush (v := (-2)) hx hb dX8_sweep_23 (by decide) ?_
          refine lv_icmp_ne (tgt := 38) hx hb dX8_sweep_25 (by decide) (fun c_3 => ?_) (fun c_3 => ?_)
          · refine lv_iinc (v := (x2h6 + 1)) (lv' := [(2, .int (x2h6 + 1)), (1, .int x1h6), (0, .ref rw)]) hx hb dX8_sweep_38 hl (k := 0) rfl rfl (by decide) rfl (fun ls hl => ?_)
            refine lv_goto (tgt := 6) hx hb dX8_sweep_41 (by decide) ?_
            exact ih_6 (i_6 + 1) x1h6 (x2h6 + 1) rowh6 (by rw [hb_6]; exact nI_1 _) (by have l_mm2m : ((-2) : Int32).toInt = (-2) := (by decide); have l_0 : (0 : Int32).toInt = 0 := (by decide); have l_19 : (19 : Int32).toInt = 19 := (by decide); have l_3 : (3 : Int32).toInt = 3 := (by decide); have qc_1 := c_1; (try simp only [fc_le, fc_lt, fc_eq] at qc_1); have qc_2 := c_2; (try simp only [fc_le, fc_lt, fc_eq] at qc_2); have qc_3 := c_3; (try simp only [fc_le, fc_lt, fc_eq] at qc_3); skip; omega) (by omega) (by rw [hI_6, mX8_sweep_L6_s, mX8_sweep_S6]; (try dsimp only); rw [if_neg c_1]; rw [if_neg c_2]; rw [if_neg c_3]; (first | done | rfl)) _ _ (hP.sub [0] rfl) (hD.sub [0] (by decide) rfl) hS ls (lv_sub hl [0, 1, 2] rfl)
          · refine lv_aload_n hx hb dX8_sweep_28 rfl (lv_at hl 2 rfl) ?_
            refine lv_bipush (v := 19) hx hb dX8_sweep_29 (by decide) ?_
            refine lv_iload_n hx hb dX8_sweep_31 rfl (lv_at hl 0 rfl) ?_
            refine lv_iadd hx hb dX8_sweep_32 ?_
            refine lv_iconst (v := (-1)) hx hb dX8_sweep_33 (by decide) ?_
            refine va_iast (D := D) hx hb hK hP hD hS 0 0 rfl rfl (by have l_mm2m : ((-2) : Int32).toInt = (-2) := (by decide); have l_0 : (0 : Int32).toInt = 0 := (by decide); have l_19 : (19 : Int32).toInt = 19 := (by decide); have l_3 : (3 : Int32).toInt = 3 := (by decide); have qc_1 := c_1; (try simp only [fc_le, fc_lt, fc_eq] at qc_1); have qc_2 := c_2; (try simp only [fc_le, fc_lt, fc_eq] at qc_2); have qc_3 := c_3; (try simp only [fc_le, fc_lt, fc_eq] at qc_3); have a_1 := fc_add (x := 19) (y := x2h6) (by omega) (by omega); rw [vp_in_iff]; omega) dX8_sweep_34 (fun H locs hP hD hS => ?_)
            have hP : va_P D vwCl [(rw, .inl (tc 0, 357, .inl (upd rowh6 ((19 + x2h6) : Int32).toNatClampNeg (-1))))] H := hP
            have hD : va_D A [(rw, .inl (tc 0, 357, .inl (upd rowh6 ((19 + x2h6) : Int32).toNatClampNeg (-1))))] := hD
            obtain ⟨row_4, hw_4⟩ : ∃ z, (upd rowh6 ((19 + x2h6) : Int32).toNatClampNeg (-1)) = z := ⟨_, rfl⟩
            rw [hw_4] at hP hD
            have hv3_4 : (row_4 (3 : Int32).toNatClampNeg).toInt = (rowh6 (3 : Int32).toNatClampNeg).toInt := by rw [← hw_4, pk_un (by have l_mm2m : ((-2) : Int32).toInt = (-2) := (by decide); have l_0 : (0 : Int32).toInt = 0 := (by decide); have l_19 : (19 : Int32).toInt = 19 := (by decide); have l_3 : (3 : Int32).toInt = 3 := (by decide); have qc_1 := c_1; (try simp only [fc_le, fc_lt, fc_eq] at qc_1); have qc_2 := c_2; (try simp only [fc_le, fc_lt, fc_eq] at qc_2); have qc_3 := c_3; (try simp only [fc_le, fc_lt, fc_eq] at qc_3); have a_1 := fc_add (x := 19) (y := x2h6) (by omega) (by omega); simp only [fc_cl]; omega)]
            refine lv_iinc (v := (x1h6 + (-1))) (lv' := [(1, .int (x1h6 + (-1))), (2, .int x2h6), (0, .ref rw)]) hx hb dX8_sweep_35 hl (k := 1) rfl rfl (by decide) rfl (fun ls hl => ?_)
            refine lv_iinc (v := (x2h6 + 1)) (lv' := [(2, .int (x2h6 + 1)), (1, .int (x1h6 + (-1))), (0, .ref rw)]) hx hb dX8_sweep_38 hl (k := 1) rfl rfl (by decide) rfl (fun ls hl => ?_)
            refine lv_goto (tgt := 6) hx hb dX8_sweep_41 (by decide) ?_
            exact ih_6 (i_6 + 1) (x1h6 + (-1)) (x2h6 + 1) row_4 (by rw [hb_6]; exact nI_1 _) (by have l_mm2m : ((-2) : Int32).toInt = (-2) := (by decide); have l_0 : (0 : Int32).toInt = 0 := (by decide); have l_19 : (19 : Int32).toInt = 19 := (by decide); have l_3 : (3 : Int32).toInt = 3 := (by decide); have qc_1 := c_1; (try simp only [fc_le, fc_lt, fc_eq] at qc_1); have qc_2 := c_2; (try simp only [fc_le, fc_lt, fc_eq] at qc_2); have qc_3 := c_3; (try simp only [fc_le, fc_lt, fc_eq] at qc_3); skip; omega) (by omega) (by rw [hI_6, mX8_sweep_L6_s, mX8_sweep_S6]; (try dsimp only); rw [if_neg c_1]; rw [if_neg c_2]; rw [if_pos c_3]; rw [hw_4]; (try dsimp only); (first | done | rfl)) _ _ (hP.sub [0] rfl) (hD.sub [0] (by decide) rfl) hS ls (lv_sub hl [0, 1, 2] rfl)
  exact loop_6 49 0 (row (0 : Int32).toNatClampNeg) 0 row nI_0.symm (by omega) rfl (by rw [mX8_sweep]; (first | done | rfl)) _ _ (hP.sub [0] rfl) (hD.sub [0] (by decide) rfl) hS ls (lv_sub hl [0, 1, 2] rfl)
theorem hd_X8_count : yX8_count.cls = RX8 ∧ yX8_count.cls ≠ "java/lang/invoke/MethodHandle" ∧ yX8_count.cls ≠ "java/lang/invoke/VarHandle" ∧ (parseMethodDescriptor yX8_count.desc).map (fun d => d.parameters.length) = some 2 := by decide +kernel
theorem hd_X8_countn : yX8_count.cls ≠ "java/lang/invoke/MethodHandle" ∧ yX8_count.cls ≠ "java/lang/invoke/VarHandle" ∧ (parseMethodDescriptor yX8_count.desc).map (fun d => d.parameters.length) = some 2 := by decide +kernel
theorem hd_X8_waitAt : yX8_waitAt.cls = RX8 ∧ yX8_waitAt.cls ≠ "java/lang/invoke/MethodHandle" ∧ yX8_waitAt.cls ≠ "java/lang/invoke/VarHandle" ∧ (parseMethodDescriptor yX8_waitAt.desc).map (fun d => d.parameters.length) = some 2 := by decide +kernel
theorem hd_X8_waitAtn : yX8_waitAt.cls ≠ "java/lang/invoke/MethodHandle" ∧ yX8_waitAt.cls ≠ "java/lang/invoke/VarHandle" ∧ (parseMethodDescriptor yX8_waitAt.desc).map (fun d => d.parameters.length) = some 2 := by decide +kernel
noncomputable def mX8_lacks (row : Nat → Int32) : Int32 :=
  if (row (17 : Int32).toNatClampNeg) ≤ 0 then
    0
  else
    let r_2 := mX8_count row (-1)
    let r_3 := mX8_count row (-2)
    let r_4 := mX8_waitAt 0 2
    if (row r_4.toNatClampNeg) ≤ (r_2 + r_3) then
      0
    else
      1
abbrev rmX8_lacks : Room := { frames := 1, cells := 0, slots := 0, locals := 23 }
set_option maxHeartbeats 4000000 in
set_option maxRecDepth 100000 in
theorem c_X8_lacks (l : Launch) (D : va_G) (tc : Nat → ClassId) (rw : Nat) (row : Nat → Int32) (sz : Nat) (h3 : 8 ≤ (row (3 : Int32).toNatClampNeg).toInt ∧ (row (3 : Int32).toNatClampNeg).toInt ≤ 48) : Met l yX8_lacks wsX8_lacks rmX8_lacks (va_Pc [.ref rw] (fcB D tc [(rw, .inl (tc 0, 357, .inl row))] sz)) (va_Qi (fun (r : Int32) (_ : Unit) => mX8_lacks row = r) (fun u t => fcO D (va_A [(rw, .inl (tc 0, 357, .inl row))] sz) ((fun (_ : Unit) => [(rw, .inl (tc 0, 357, .inl row))]) u) t) (va_A [(rw, .inl (tc 0, 357, .inl row))] sz)) 0 0 (va_A [(rw, .inl (tc 0, 357, .inl row))] sz) := by
  refine fc_ofWz (own := RX8) (cc := cX8_lacks) (maxL := 1) (W1 := (fun (_ : Unit) => [(rw, .inl (tc 0, 357, .inl row))])) rfl (by decide) rfl (Nat.le_of_ble_eq_true rfl) ?_
  intro p e s m args below meth c A Q hx hb hml hown hts hK hE hP hD hS hA hin hret ls hl
  have hl : lv_has ls 1 [(0, .ref rw)] := hl
  refine lv_aload_n hx hb dX8_lacks_0 rfl (lv_at hl 0 rfl) ?_
  refine lv_bipush (v := 17) hx hb dX8_lacks_1 (by decide) ?_
  refine va_iald (D := D) hx hb hK hP 0 0 rfl rfl (vp_in_iff.mpr (by decide)) dX8_lacks_3 ?_
  refine lv_if_le (tgt := 33) hx hb dX8_lacks_4 (by decide) (fun c_1 => ?_) (fun c_1 => ?_)
  · refine lv_iconst (v := 0) hx hb dX8_lacks_33 (by decide) ?_
    exact hret _ _ (0) () _ _ (Or.inl rfl) (by rw [mX8_lacks]; (try dsimp only); rw [if_pos c_1]; (first | done | rfl)) (hP.sub [0] rfl) (hD.sub [0] (by decide) rfl) hS dX8_lacks_34
  · refine lv_aload_n hx hb dX8_lacks_7 rfl (lv_at hl 0 rfl) ?_
    refine lv_iconst (v := (-1)) hx hb dX8_lacks_8 (by decide) ?_
    refine fc_goi (isC := [0]) (isR := []) (wc := [(rw, .inl (tc 0, 357, .inl row))]) (wr := []) hP hD hS hA rfl rfl (by decide) (by decide) (fc_runS (isC := [0]) (As := [.ref rw, .int (-1)]) (rest := []) hx hb hml hown hts hK hE hP hD hS hA rfl (by decide) (c_X8_count l D tc rw row (-1) _ (by have l_mm1m : ((-1) : Int32).toInt = (-1) := (by decide); have l_0 : (0 : Int32).toInt = 0 := (by decide); have l_17 : (17 : Int32).toInt = 17 := (by decide); have qc_1 := c_1; (try simp only [fc_le, fc_lt, fc_eq] at qc_1); (try simp only [fc_le, fc_lt, fc_eq]); omega)) (cwS 2 hts gX8_lacks_X8_count rfl rfl rfl hd_X8_count ⟨Nat.le_of_ble_eq_true rfl, Nat.le_of_ble_eq_true rfl⟩) rfl hl.1 rfl (Nat.le_of_ble_eq_true rfl) dX8_lacks_9 ⟨Nat.le_of_ble_eq_true rfl, Nat.le_of_ble_eq_true rfl⟩) (fun r_2 u_2 H locs hw_2 hP hD hS => ?_)
    try dsimp only at hw_2
    have hP : va_P D vwCl [(rw, .inl (tc 0, 357, .inl row))] H := hP
    have hD : va_D A [(rw, .inl (tc 0, 357, .inl row))] := hD
    refine lv_aload_n hx hb dX8_lacks_12 rfl (lv_at hl 0 rfl) ?_
    refine lv_bipush (v := (-2)) hx hb dX8_lacks_13 (by decide) ?_
    refine fc_goi (isC := [0]) (isR := []) (wc := [(rw, .inl (tc 0, 357, .inl row))]) (wr := []) hP hD hS hA rfl rfl (by decide) (by decide) (fc_runS (isC := [0]) (As := [.ref rw, .int (-2)]) (rest := [.int r_2]) hx hb hml hown hts hK hE hP hD hS hA rfl (by decide) (c_X8_count l D tc rw row (-2) _ (by have l_mm2m : ((-2) : Int32).toInt = (-2) := (by decide); have l_0 : (0 : Int32).toInt = 0 := (by decide); have l_17 : (17 : Int32).toInt = 17 := (by decide); have qc_1 := c_1; (try simp only [fc_le, fc_lt, fc_eq] at qc_1); (try simp only [fc_le, fc_lt, fc_eq]); omega)) (cwS 2 hts gX8_lacks_X8_count rfl rfl rfl hd_X8_count ⟨Nat.le_of_ble_eq_true rfl, Nat.le_of_ble_eq_true rfl⟩) rfl hl.1 rfl (Nat.le_of_ble_eq_true rfl) dX8_lacks_15 ⟨Nat.le_of_ble_eq_true rfl, Nat.le_of_ble_eq_true rfl⟩) (fun r_3 u_3 H locs hw_3 hP hD hS => ?_)
    try dsimp only at hw_3
    have hP : va_P D vwCl [(rw, .inl (tc 0, 357, .inl row))] H := hP
    have hD : va_D A [(rw, .inl (tc 0, 357, .inl row))] := hD
    refine lv_iadd hx hb dX8_lacks_18 ?_
    refine lv_aload_n hx hb dX8_lacks_19 rfl (lv_at hl 0 rfl) ?_
    refine lv_iconst (v := 0) hx hb dX8_lacks_20 (by decide) ?_
    refine lv_iconst (v := 2) hx hb dX8_lacks_21 (by decide) ?_
    refine fc_goi (isC := []) (isR := [0]) (wc := []) (wr := [(rw, .inl (tc 0, 357, .inl row))]) hP hD hS hA rfl rfl (by decide) (by decide) (fc_runS (isC := []) (As := [.int 0, .int 2]) (rest := [.ref rw, .int (r_2 + r_3)]) hx hb hml hown hts hK hE hP hD hS hA rfl (by decide) (c_X8_waitAt l D tc 0 2 _ ) (cwS 2 hts gX8_lacks_X8_waitAt rfl rfl rfl hd_X8_waitAt ⟨Nat.le_of_ble_eq_true rfl, Nat.le_of_ble_eq_true rfl⟩) rfl hl.1 rfl (Nat.le_of_ble_eq_true rfl) dX8_lacks_22 ⟨Nat.le_of_ble_eq_true rfl, Nat.le_of_ble_eq_true rfl⟩) (fun r_4 u_4 H locs hw_4 hP hD hS => ?_)
    try dsimp only at hw_4
    have hP : va_P D vwCl [(rw, .inl (tc 0, 357, .inl row))] H := hP
    have hD : va_D A [(rw, .inl (tc 0, 357, .inl row))] := hD
    have hf_4 := fx_waitAt hw_4 (by decide) (by decide)
    refine va_iald (D := D) hx hb hK hP 0 0 rfl rfl (by have l_0 : (0 : Int32).toInt = 0 := (by decide); have l_17 : (17 : Int32).toInt = 17 := (by decide); have qc_1 := c_1; (try simp only [fc_le, fc_lt, fc_eq] at qc_1); rw [vp_in_iff]; omega) dX8_lacks_25 ?_
    refine lv_icmp_ge (tgt := 33) hx hb dX8_lacks_26 (by decide) (fun c_5 => ?_) (fun c_5 => ?_)
    · refine lv_iconst (v := 0) hx hb dX8_lacks_33 (by decide) ?_
      exact hret _ _ (0) () _ _ (Or.inl rfl) (by rw [mX8_lacks]; (try dsimp only); rw [if_neg c_1]; rw [hw_2]; (try dsimp only); rw [hw_3]; (try dsimp only); rw [hw_4]; (try dsimp only); rw [if_pos c_5]; (first | done | rfl)) (hP.sub [0] rfl) (hD.sub [0] (by decide) rfl) hS dX8_lacks_34
    · refine lv_iconst (v := 1) hx hb dX8_lacks_29 (by decide) ?_
      refine lv_goto (tgt := 34) hx hb dX8_lacks_30 (by decide) ?_
      exact hret _ _ (1) () _ _ (Or.inr rfl) (by rw [mX8_lacks]; (try dsimp only); rw [if_neg c_1]; rw [hw_2]; (try dsimp only); rw [hw_3]; (try dsimp only); rw [hw_4]; (try dsimp only); rw [if_neg c_5]; (first | done | rfl)) (hP.sub [0] rfl) (hD.sub [0] (by decide) rfl) hS dX8_lacks_34
theorem hd_X8_sizeOf : yX8_sizeOf.cls = RX8 ∧ yX8_sizeOf.cls ≠ "java/lang/invoke/MethodHandle" ∧ yX8_sizeOf.cls ≠ "java/lang/invoke/VarHandle" ∧ (parseMethodDescriptor yX8_sizeOf.desc).map (fun d => d.parameters.length) = some 1 := by decide +kernel
theorem hd_X8_sizeOfn : yX8_sizeOf.cls ≠ "java/lang/invoke/MethodHandle" ∧ yX8_sizeOf.cls ≠ "java/lang/invoke/VarHandle" ∧ (parseMethodDescriptor yX8_sizeOf.desc).map (fun d => d.parameters.length) = some 1 := by decide +kernel
noncomputable def mX8_shootIn (row : Nat → Int32) (p1 : Int32) : Int32 × (Nat → Int32) :=
  if (row (15 : Int32).toNatClampNeg) = (-1) then
    let row_19 := (upd row (5 : Int32).toNatClampNeg ((row (5 : Int32).toNatClampNeg) + 1))
    let row_20 := (upd row_19 (13 : Int32).toNatClampNeg ((row_19 (13 : Int32).toNatClampNeg) + 1))
    let row_21 := (upd row_20 (15 : Int32).toNatClampNeg p1)
    if (row_21 (17 : Int32).toNatClampNeg) = 4 then
      let row_32 := (upd row_21 (7 : Int32).toNatClampNeg ((row_21 (7 : Int32).toNatClampNeg) + 1))
      let row_33 := (upd row_32 (14 : Int32).toNatClampNeg ((row_32 (14 : Int32).toNatClampNeg) + 1))
      ((-1), row_33)
    else
      let r_23 := mX8_waitAt (row_21 (17 : Int32).toNatClampNeg) 0
      let row_24 := (upd row_21 r_23.toNatClampNeg (row (5 : Int32).toNatClampNeg))
      let r_25 := mX8_waitAt (row_21 (17 : Int32).toNatClampNeg) 1
      let row_26 := (upd row_24 r_25.toNatClampNeg p1)
      let r_27 := mX8_waitAt (row_21 (17 : Int32).toNatClampNeg) 2
      let row_28 := (upd row_26 r_27.toNatClampNeg 7)
      let r_29 := mX8_waitAt (row_21 (17 : Int32).toNatClampNeg) 3
      let row_30 := (upd row_28 r_29.toNatClampNeg (row_28 (4 : Int32).toNatClampNeg))
      let row_31 := (upd row_30 (17 : Int32).toNatClampNeg ((row_30 (17 : Int32).toNatClampNeg) + 1))
      ((row (5 : Int32).toNatClampNeg), row_31)
  else
    let r_2 := mX8_difference p1 (row (15 : Int32).toNatClampNeg)
    let r_3 := mX8_sizeOf r_2
    let row_4 := (upd row (5 : Int32).toNatClampNeg ((row (5 : Int32).toNatClampNeg) + 1))
    let row_5 := (upd row_4 (13 : Int32).toNatClampNeg ((row_4 (13 : Int32).toNatClampNeg) + 1))
    let row_6 := (upd row_5 (15 : Int32).toNatClampNeg p1)
    if (row_6 (17 : Int32).toNatClampNeg) = 4 then
      let row_17 := (upd row_6 (7 : Int32).toNatClampNeg ((row_6 (7 : Int32).toNatClampNeg) + 1))
      let row_18 := (upd row_17 (14 : Int32).toNatClampNeg ((row_17 (14 : Int32).toNatClampNeg) + 1))
      ((-1), row_18)
    else
      let r_8 := mX8_waitAt (row_6 (17 : Int32).toNatClampNeg) 0
      let row_9 := (upd row_6 r_8.toNatClampNeg (row (5 : Int32).toNatClampNeg))
      let r_10 := mX8_waitAt (row_6 (17 : Int32).toNatClampNeg) 1
      let row_11 := (upd row_9 r_10.toNatClampNeg p1)
      let r_12 := mX8_waitAt (row_6 (17 : Int32).toNatClampNeg) 2
      let row_13 := (upd row_11 r_12.toNatClampNeg r_3)
      let r_14 := mX8_waitAt (row_6 (17 : Int32).toNatClampNeg) 3
      let row_15 := (upd row_13 r_14.toNatClampNeg (row_13 (4 : Int32).toNatClampNeg))
      let row_16 := (upd row_15 (17 : Int32).toNatClampNeg ((row_15 (17 : Int32).toNatClampNeg) + 1))
      ((row (5 : Int32).toNatClampNeg), row_16)
abbrev rmX8_shootIn : Room := { frames := 1, cells := 0, slots := 0, locals := 26 }
set_option maxHeartbeats 4000000 in
set_option maxRecDepth 100000 in
theorem c_X8_shootIn (l : Launch) (D : va_G) (tc : Nat → ClassId) (rw : Nat) (row : Nat → Int32) (p1 : Int32) (sz : Nat) (h17 : 0 ≤ (row (17 : Int32).toNatClampNeg).toInt ∧ (row (17 : Int32).toNatClampNeg).toInt ≤ 4) : Met l yX8_shootIn wsX8_shootIn rmX8_shootIn (va_Pc [.ref rw, .int p1] (fcB D tc [(rw, .inl (tc 0, 357, .inl row))] sz)) (va_Qi (fun (r : Int32) (u : Nat → Int32) => mX8_shootIn row p1 = (r, u)) (fun u t => fcO D (va_A [(rw, .inl (tc 0, 357, .inl row))] sz) ((fun (u : Nat → Int32) => [(rw, .inl (tc 0, 357, .inl u))]) u) t) (va_A [(rw, .inl (tc 0, 357, .inl row))] sz)) 0 0 (va_A [(rw, .inl (tc 0, 357, .inl row))] sz) := by
  refine fc_ofWi (own := RX8) (cc := cX8_shootIn) (maxL := 5) (W1 := (fun (u : Nat → Int32) => [(rw, .inl (tc 0, 357, .inl u))])) rfl (by decide) rfl (Nat.le_of_ble_eq_true rfl) ?_
  intro p e s m args below meth c A Q hx hb hml hown hts hK hE hP hD hS hA hin hret ls hl
  have hl : lv_has ls 5 [(0, .ref rw), (1, .int p1)] := hl
  refine lv_aload_n hx hb dX8_shootIn_0 rfl (lv_at hl 0 rfl) ?_
  refine lv_iconst (v := 5) hx hb dX8_shootIn_1 (by decide) ?_
  refine va_iald (D := D) hx hb hK hP 0 0 rfl rfl (vp_in_iff.mpr (by decide)) dX8_shootIn_2 ?_
  refine lv_istore_n (lv' := [(2, .int (row (5 : Int32).toNatClampNeg)), (0, .ref rw), (1, .int p1)]) hx hb dX8_shootIn_3 rfl hl (by decide) rfl (fun ls hl => ?_)
  refine lv_aload_n hx hb dX8_shootIn_4 rfl (lv_at hl 1 rfl) ?_
  refine lv_bipush (v := 15) hx hb dX8_shootIn_5 (by decide) ?_
  refine va_iald (D := D) hx hb hK hP 0 0 rfl rfl (vp_in_iff.mpr (by decide)) dX8_shootIn_7 ?_
  refine lv_iconst (v := (-1)) hx hb dX8_shootIn_8 (by decide) ?_
  refine lv_icmp_ne (tgt := 17) hx hb dX8_shootIn_9 (by decide) (fun c_1 => ?_) (fun c_1 => ?_)
  · refine lv_iload_n hx hb dX8_shootIn_17 rfl (lv_at hl 2 rfl) ?_
    refine lv_aload_n hx hb dX8_shootIn_18 rfl (lv_at hl 1 rfl) ?_
    refine lv_bipush (v := 15) hx hb dX8_shootIn_19 (by decide) ?_
    refine va_iald (D := D) hx hb hK hP 0 0 rfl rfl (vp_in_iff.mpr (by decide)) dX8_shootIn_21 ?_
    refine fc_goi (isC := []) (isR := [0]) (wc := []) (wr := [(rw, .inl (tc 0, 357, .inl row))]) hP hD hS hA rfl rfl (by decide) (by decide) (fc_runS (isC := []) (As := [.int p1, .int (row (15 : Int32).toNatClampNeg)]) (rest := []) hx hb hml hown hts hK hE hP hD hS hA rfl (by decide) (c_X8_difference l D tc p1 (row (15 : Int32).toNatClampNeg) _ ) (cwS 2 hts gX8_shootIn_X8_difference rfl rfl rfl hd_X8_difference ⟨Nat.le_of_ble_eq_true rfl, Nat.le_of_ble_eq_true rfl⟩) rfl hl.1 rfl (Nat.le_of_ble_eq_true rfl) dX8_shootIn_22 ⟨Nat.le_of_ble_eq_true rfl, Nat.le_of_ble_eq_true rfl⟩) (fun r_2 u_2 H locs hw_2 hP hD hS => ?_)
    try dsimp only at hw_2
    have hP : va_P D vwCl [(rw, .inl (tc 0, 357, .inl row))] H := hP
    have hD : va_D A [(rw, .inl (tc 0, 357, .inl row))] := hD
    refine fc_goi (isC := []) (isR := [0]) (wc := []) (wr := [(rw, .inl (tc 0, 357, .inl row))]) hP hD hS hA rfl rfl (by decide) (by decide) (fc_runS (isC := []) (As := [.int r_2]) (rest := []) hx hb hml hown hts hK hE hP hD hS hA rfl (by decide) (c_X8_sizeOf l D tc r_2 _ ) (cwS 1 hts gX8_shootIn_X8_sizeOf rfl rfl rfl hd_X8_sizeOf ⟨Nat.le_of_ble_eq_true rfl, Nat.le_of_ble_eq_true rfl⟩) rfl hl.1 rfl (Nat.le_of_ble_eq_true rfl) dX8_shootIn_25 ⟨Nat.le_of_ble_eq_true rfl, Nat.le_of_ble_eq_true rfl⟩) (fun r_3 u_3 H locs hw_3 hP hD hS => ?_)
    try dsimp only at hw_3
    have hP : va_P D vwCl [(rw, .inl (tc 0, 357, .inl row))] H := hP
    have hD : va_D A [(rw, .inl (tc 0, 357, .inl row))] := hD
    refine lv_istore_n (lv' := [(3, .int r_3), (2, .int (row (5 : Int32).toNatClampNeg)), (0, .ref rw), (1, .int p1)]) hx hb dX8_shootIn_28 rfl hl (by decide) rfl (fun ls hl => ?_)
    refine lv_aload_n hx hb dX8_shootIn_29 rfl (lv_at hl 2 rfl) ?_
    refine lv_iconst (v := 5) hx hb dX8_shootIn_30 (by decide) ?_
    refine lv_dup2_11 hx hb dX8_shootIn_31 rfl rfl ?_
    refine va_iald (D := D) hx hb hK hP 0 0 rfl rfl (vp_in_iff.mpr (by decide)) dX8_shootIn_32 ?_
    refine lv_iconst (v := 1) hx hb dX8_shootIn_33 (by decide) ?_
    refine lv_iadd hx hb dX8_shootIn_34 ?_
    refine va_iast (D := D) hx hb hK hP hD hS 0 0 rfl rfl (vp_in_iff.mpr (by decide)) dX8_shootIn_35 (fun H locs hP hD hS => ?_)
    have hP : va_P D vwCl [(rw, .inl (tc 0, 357, .inl (upd row (5 : Int32).toNatClampNeg ((row (5 : Int32).toNatClampNeg) + 1))))] H := hP
    have hD : va_D A [(rw, .inl (tc 0, 357, .inl (upd row (5 : Int32).toNatClampNeg ((row (5 : Int32).toNatClampNeg) + 1))))] := hD
    obtain ⟨row_4, hw_4⟩ : ∃ z, (upd row (5 : Int32).toNatClampNeg ((row (5 : Int32).toNatClampNeg) + 1)) = z := ⟨_, rfl⟩
    rw [hw_4] at hP hD
    have hv17_4 : (row_4 (17 : Int32).toNatClampNeg).toInt = (row (17 : Int32).toNatClampNeg).toInt := by rw [← hw_4, pk_un (by decide)]
    refine lv_aload_n hx hb dX8_shootIn_36 rfl (lv_at hl 2 rfl) ?_
    refine lv_bipush (v := 13) hx hb dX8_shootIn_37 (by decide) ?_
    refine lv_dup2_11 hx hb dX8_shootIn_39 rfl rfl ?_
    refine va_iald (D := D) hx hb hK hP 0 0 rfl rfl (vp_in_iff.mpr (by decide)) dX8_shootIn_40 ?_
    refine lv_iconst (v := 1) hx hb dX8_shootIn_41 (by decide) ?_
    refine lv_iadd hx hb dX8_shootIn_42 ?_
    refine va_iast (D := D) hx hb hK hP hD hS 0 0 rfl rfl (vp_in_iff.mpr (by decide)) dX8_shootIn_43 (fun H locs hP hD hS => ?_)
    have hP : va_P D vwCl [(rw, .inl (tc 0, 357, .inl (upd row_4 (13 : Int32).toNatClampNeg ((row_4 (13 : Int32).toNatClampNeg) + 1))))] H := hP
    have hD : va_D A [(rw, .inl (tc 0, 357, .inl (upd row_4 (13 : Int32).toNatClampNeg ((row_4 (13 : Int32).toNatClampNeg) + 1))))] := hD
    obtain ⟨row_5, hw_5⟩ : ∃ z, (upd row_4 (13 : Int32).toNatClampNeg ((row_4 (13 : Int32).toNatClampNeg) + 1)) = z := ⟨_, rfl⟩
    rw [hw_5] at hP hD
    have hv17_5 : (row_5 (17 : Int32).toNatClampNeg).toInt = (row_4 (17 : Int32).toNatClampNeg).toInt := by rw [← hw_5, pk_un (by decide)]
    refine lv_aload_n hx hb dX8_shootIn_44 rfl (lv_at hl 2 rfl) ?_
    refine lv_bipush (v := 15) hx hb dX8_shootIn_45 (by decide) ?_
    refine lv_iload_n hx hb dX8_shootIn_47 rfl (lv_at hl 3 rfl) ?_
    refine va_iast (D := D) hx hb hK hP hD hS 0 0 rfl rfl (vp_in_iff.mpr (by decide)) dX8_shootIn_48 (fun H locs hP hD hS => ?_)
    have hP : va_P D vwCl [(rw, .inl (tc 0, 357, .inl (upd row_5 (15 : Int32).toNatClampNeg p1)))] H := hP
    have hD : va_D A [(rw, .inl (tc 0, 357, .inl (upd row_5 (15 : Int32).toNatClampNeg p1)))] := hD
    obtain ⟨row_6, hw_6⟩ : ∃ z, (upd row_5 (15 : Int32).toNatClampNeg p1) = z := ⟨_, rfl⟩
    rw [hw_6] at hP hD
    have hv17_6 : (row_6 (17 : Int32).toNatClampNeg).toInt = (row_5 (17 : Int32).toNatClampNeg).toInt := by rw [← hw_6, pk_un (by decide)]
    refine lv_aload_n hx hb dX8_shootIn_49 rfl (lv_at hl 2 rfl) ?_
    refine lv_bipush (v := 17) hx hb dX8_shootIn_50 (by decide) ?_
    refine va_iald (D := D) hx hb hK hP 0 0 rfl rfl (vp_in_iff.mpr (by decide)) dX8_shootIn_52 ?_
    refine lv_iconst (v := 4) hx hb dX8_shootIn_53 (by decide) ?_
    refine lv_icmp_ne (tgt := 75) hx hb dX8_shootIn_54 (by decide) (fun c_7 => ?_) (fun c_7 => ?_)
    · refine lv_aload_n hx hb dX8_shootIn_75 rfl (lv_at hl 2 rfl) ?_
      refine lv_bipush (v := 17) hx hb dX8_shootIn_76 (by decide) ?_
      refine va_iald (D := D) hx hb hK hP 0 0 rfl rfl (vp_in_iff.mpr (by decide)) dX8_shootIn_78 ?_
      refine lv_istore (lv' := [(4, .int (row_6 (17 : Int32).toNatClampNeg)), (3, .int r_3), (2, .int (row (5 : Int32).toNatClampNeg)), (0, .ref rw), (1, .int p1)]) hx hb dX8_shootIn_79 hl (by decide) rfl (fun ls hl => ?_)
      refine lv_aload_n hx hb dX8_shootIn_81 rfl (lv_at hl 3 rfl) ?_
      refine lv_iload hx hb dX8_shootIn_82 (lv_at hl 0 rfl) ?_
      refine lv_iconst (v := 0) hx hb dX8_shootIn_84 (by decide) ?_
      refine fc_goi (isC := []) (isR := [0]) (wc := []) (wr := [(rw, .inl (tc 0, 357, .inl row_6))]) hP hD hS hA rfl rfl (by decide) (by decide) (fc_runS (isC := []) (As := [.int (row_6 (17 : Int32).toNatClampNeg), .int 0]) (rest := [.ref rw]) hx hb hml hown hts hK hE hP hD hS hA rfl (by decide) (c_X8_waitAt l D tc (row_6 (17 : Int32).toNatClampNeg) 0 _ ) (cwS 2 hts gX8_shootIn_X8_waitAt rfl rfl rfl hd_X8_waitAt ⟨Nat.le_of_ble_eq_true rfl, Nat.le_of_ble_eq_true rfl⟩) rfl hl.1 rfl (Nat.le_of_ble_eq_true rfl) dX8_shootIn_85 ⟨Nat.le_of_ble_eq_true rfl, Nat.le_of_ble_eq_true rfl⟩) (fun r_8 u_8 H locs hw_8 hP hD hS => ?_)
      try dsimp only at hw_8
      have hP : va_P D vwCl [(rw, .inl (tc 0, 357, .inl row_6))] H := hP
      have hD : va_D A [(rw, .inl (tc 0, 357, .inl row_6))] := hD
      have hf_8 := fx_waitAt hw_8 (by omega) (by decide)
      refine lv_iload_n hx hb dX8_shootIn_88 rfl (lv_at hl 2 rfl) ?_
      refine va_iast (D := D) hx hb hK hP hD hS 0 0 rfl rfl (by have l_mm1m : ((-1) : Int32).toInt = (-1) := (by decide); have l_15 : (15 : Int32).toInt = 15 := (by decide); have l_17 : (17 : Int32).toInt = 17 := (by decide); have l_4 : (4 : Int32).toInt = 4 := (by decide); have qc_1 := c_1; (try simp only [fc_le, fc_lt, fc_eq] at qc_1); have qc_7 := c_7; (try simp only [fc_le, fc_lt, fc_eq] at qc_7); rw [vp_in_iff]; omega) dX8_shootIn_89 (fun H locs hP hD hS => ?_)
      have hP : va_P D vwCl [(rw, .inl (tc 0, 357, .inl (upd row_6 r_8.toNatClampNeg (row (5 : Int32).toNatClampNeg))))] H := hP
      have hD : va_D A [(rw, .inl (tc 0, 357, .inl (upd row_6 r_8.toNatClampNeg (row (5 : Int32).toNatClampNeg))))] := hD
      obtain ⟨row_9, hw_9⟩ : ∃ z, (upd row_6 r_8.toNatClampNeg (row (5 : Int32).toNatClampNeg)) = z := ⟨_, rfl⟩
      rw [hw_9] at hP hD
      have hv17_9 : (row_9 (17 : Int32).toNatClampNeg).toInt = (row_6 (17 : Int32).toNatClampNeg).toInt := by rw [← hw_9, pk_un (by have l_mm1m : ((-1) : Int32).toInt = (-1) := (by decide); have l_15 : (15 : Int32).toInt = 15 := (by decide); have l_17 : (17 : Int32).toInt = 17 := (by decide); have l_4 : (4 : Int32).toInt = 4 := (by decide); have qc_1 := c_1; (try simp only [fc_le, fc_lt, fc_eq] at qc_1); have qc_7 := c_7; (try simp only [fc_le, fc_lt, fc_eq] at qc_7); simp only [fc_cl]; omega)]
      refine lv_aload_n hx hb dX8_shootIn_90 rfl (lv_at hl 3 rfl) ?_
      refine lv_iload hx hb dX8_shootIn_91 (lv_at hl 0 rfl) ?_
      refine lv_iconst (v := 1) hx hb dX8_shootIn_93 (by decide) ?_
      refine fc_goi (isC := []) (isR := [0]) (wc := []) (wr := [(rw, .inl (tc 0, 357, .inl row_9))]) hP hD hS hA rfl rfl (by decide) (by decide) (fc_runS (isC := []) (As := [.int (row_6 (17 : Int32).toNatClampNeg), .int 1]) (rest := [.ref rw]) hx hb hml hown hts hK hE hP hD hS hA rfl (by decide) (c_X8_waitAt l D tc (row_6 (17 : Int32).toNatClampNeg) 1 _ ) (cwS 2 hts gX8_shootIn_X8_waitAt rfl rfl rfl hd_X8_waitAt ⟨Nat.le_of_ble_eq_true rfl, Nat.le_of_ble_eq_true rfl⟩) rfl hl.1 rfl (Nat.le_of_ble_eq_true rfl) dX8_shootIn_94 ⟨Nat.le_of_ble_eq_true rfl, Nat.le_of_ble_eq_true rfl⟩) (fun r_10 u_10 H locs hw_10 hP hD hS => ?_)
      try dsimp only at hw_10
      have hP : va_P D vwCl [(rw, .inl (tc 0, 357, .inl row_9))] H := hP
      have hD : va_D A [(rw, .inl (tc 0, 357, .inl row_9))] := hD
      have hf_10 := fx_waitAt hw_10 (by omega) (by decide)
      refine lv_iload_n hx hb dX8_shootIn_97 rfl (lv_at hl 4 rfl) ?_
      refine va_iast (D := D) hx hb hK hP hD hS 0 0 rfl rfl (by have l_mm1m : ((-1) : Int32).toInt = (-1) := (by decide); have l_15 : (15 : Int32).toInt = 15 := (by decide); have l_17 : (17 : Int32).toInt = 17 := (by decide); have l_4 : (4 : Int32).toInt = 4 := (by decide); have qc_1 := c_1; (try simp only [fc_le, fc_lt, fc_eq] at qc_1); have qc_7 := c_7; (try simp only [fc_le, fc_lt, fc_eq] at qc_7); rw [vp_in_iff]; omega) dX8_shootIn_98 (fun H locs hP hD hS => ?_)
      have hP : va_P D vwCl [(rw, .inl (tc 0, 357, .inl (upd row_9 r_10.toNatClampNeg p1)))] H := hP
      have hD : va_D A [(rw, .inl (tc 0, 357, .inl (upd row_9 r_10.toNatClampNeg p1)))] := hD
      obtain ⟨row_11, hw_11⟩ : ∃ z, (upd row_9 r_10.toNatClampNeg p1) = z := ⟨_, rfl⟩
      rw [hw_11] at hP hD
      have hv17_11 : (row_11 (17 : Int32).toNatClampNeg).toInt = (row_9 (17 : Int32).toNatClampNeg).toInt := by rw [← hw_11, pk_un (by have l_mm1m : ((-1) : Int32).toInt = (-1) := (by decide); have l_15 : (15 : Int32).toInt = 15 := (by decide); have l_17 : (17 : Int32).toInt = 17 := (by decide); have l_4 : (4 : Int32).toInt = 4 := (by decide); have qc_1 := c_1; (try simp only [fc_le, fc_lt, fc_eq] at qc_1); have qc_7 := c_7; (try simp only [fc_le, fc_lt, fc_eq] at qc_7); simp only [fc_cl]; omega)]
      refine lv_aload_n hx hb dX8_shootIn_99 rfl (lv_at hl 3 rfl) ?_
      refine lv_iload hx hb dX8_shootIn_100 (lv_at hl 0 rfl) ?_
      refine lv_iconst (v := 2) hx hb dX8_shootIn_102 (by decide) ?_
      refine fc_goi (isC := []) (isR := [0]) (wc := []) (wr := [(rw, .inl (tc 0, 357, .inl row_11))]) hP hD hS hA rfl rfl (by decide) (by decide) (fc_runS (isC := []) (As := [.int (row_6 (17 : Int32).toNatClampNeg), .int 2]) (rest := [.ref rw]) hx hb hml hown hts hK hE hP hD hS hA rfl (by decide) (c_X8_waitAt l D tc (row_6 (17 : Int32).toNatClampNeg) 2 _ ) (cwS 2 hts gX8_shootIn_X8_waitAt rfl rfl rfl hd_X8_waitAt ⟨Nat.le_of_ble_eq_true rfl, Nat.le_of_ble_eq_true rfl⟩) rfl hl.1 rfl (Nat.le_of_ble_eq_true rfl) dX8_shootIn_103 ⟨Nat.le_of_ble_eq_true rfl, Nat.le_of_ble_eq_true rfl⟩) (fun r_12 u_12 H locs hw_12 hP hD hS => ?_)
      try dsimp only at hw_12
      have hP : va_P D vwCl [(rw, .inl (tc 0, 357, .inl row_11))] H := hP
      have hD : va_D A [(rw, .inl (tc 0, 357, .inl row_11))] := hD
      have hf_12 := fx_waitAt hw_12 (by omega) (by decide)
      refine lv_iload_n hx hb dX8_shootIn_106 rfl (lv_at hl 1 rfl) ?_
      refine va_iast (D := D) hx hb hK hP hD hS 0 0 rfl rfl (by have l_mm1m : ((-1) : Int32).toInt = (-1) := (by decide); have l_15 : (15 : Int32).toInt = 15 := (by decide); have l_17 : (17 : Int32).toInt = 17 := (by decide); have l_4 : (4 : Int32).toInt = 4 := (by decide); have qc_1 := c_1; (try simp only [fc_le, fc_lt, fc_eq] at qc_1); have qc_7 := c_7; (try simp only [fc_le, fc_lt, fc_eq] at qc_7); rw [vp_in_iff]; omega) dX8_shootIn_107 (fun H locs hP hD hS => ?_)
      have hP : va_P D vwCl [(rw, .inl (tc 0, 357, .inl (upd row_11 r_12.toNatClampNeg r_3)))] H := hP
      have hD : va_D A [(rw, .inl (tc 0, 357, .inl (upd row_11 r_12.toNatClampNeg r_3)))] := hD
      obtain ⟨row_13, hw_13⟩ : ∃ z, (upd row_11 r_12.toNatClampNeg r_3) = z := ⟨_, rfl⟩
      rw [hw_13] at hP hD
      have hv17_13 : (row_13 (17 : Int32).toNatClampNeg).toInt = (row_11 (17 : Int32).toNatClampNeg).toInt := by rw [← hw_13, pk_un (by have l_mm1m : ((-1) : Int32).toInt = (-1) := (by decide); have l_15 : (15 : Int32).toInt = 15 := (by decide); have l_17 : (17 : Int32).toInt = 17 := (by decide); have l_4 : (4 : Int32).toInt = 4 := (by decide); have qc_1 := c_1; (try simp only [fc_le, fc_lt, fc_eq] at qc_1); have qc_7 := c_7; (try simp only [fc_le, fc_lt, fc_eq] at qc_7); simp only [fc_cl]; omega)]
      refine lv_aload_n hx hb dX8_shootIn_108 rfl (lv_at hl 3 rfl) ?_
      refine lv_iload hx hb dX8_shootIn_109 (lv_at hl 0 rfl) ?_
      refine lv_iconst (v := 3) hx hb dX8_shootIn_111 (by decide) ?_
      refine fc_goi (isC := []) (isR := [0]) (wc := []) (wr := [(rw, .inl (tc 0, 357, .inl row_13))]) hP hD hS hA rfl rfl (by decide) (by decide) (fc_runS (isC := []) (As := [.int (row_6 (17 : Int32).toNatClampNeg), .int 3]) (rest := [.ref rw]) hx hb hml hown hts hK hE hP hD hS hA rfl (by decide) (c_X8_waitAt l D tc (row_6 (17 : Int32).toNatClampNeg) 3 _ ) (cwS 2 hts gX8_shootIn_X8_waitAt rfl rfl rfl hd_X8_waitAt ⟨Nat.le_of_ble_eq_true rfl, Nat.le_of_ble_eq_true rfl⟩) rfl hl.1 rfl (Nat.le_of_ble_eq_true rfl) dX8_shootIn_112 ⟨Nat.le_of_ble_eq_true rfl, Nat.le_of_ble_eq_true rfl⟩) (fun r_14 u_14 H locs hw_14 hP hD hS => ?_)
      try dsimp only at hw_14
      have hP : va_P D vwCl [(rw, .inl (tc 0, 357, .inl row_13))] H := hP
      have hD : va_D A [(rw, .inl (tc 0, 357, .inl row_13))] := hD
      have hf_14 := fx_waitAt hw_14 (by omega) (by decide)
      refine lv_aload_n hx hb dX8_shootIn_115 rfl (lv_at hl 3 rfl) ?_
      refine lv_iconst (v := 4) hx hb dX8_shootIn_116 (by decide) ?_
      refine va_iald (D := D) hx hb hK hP 0 0 rfl rfl (vp_in_iff.mpr (by decide)) dX8_shootIn_117 ?_
      refine va_iast (D := D) hx hb hK hP hD hS 0 0 rfl rfl (by have l_mm1m : ((-1) : Int32).toInt = (-1) := (by decide); have l_15 : (15 : Int32).toInt = 15 := (by decide); have l_17 : (17 : Int32).toInt = 17 := (by decide); have l_4 : (4 : Int32).toInt = 4 := (by decide); have qc_1 := c_1; (try simp only [fc_le, fc_lt, fc_eq] at qc_1); have qc_7 := c_7; (try simp only [fc_le, fc_lt, fc_eq] at qc_7); rw [vp_in_iff]; omega) dX8_shootIn_118 (fun H locs hP hD hS => ?_)
      have hP : va_P D vwCl [(rw, .inl (tc 0, 357, .inl (upd row_13 r_14.toNatClampNeg (row_13 (4 : Int32).toNatClampNeg))))] H := hP
      have hD : va_D A [(rw, .inl (tc 0, 357, .inl (upd row_13 r_14.toNatClampNeg (row_13 (4 : Int32).toNatClampNeg))))] := hD
      obtain ⟨row_15, hw_15⟩ : ∃ z, (upd row_13 r_14.toNatClampNeg (row_13 (4 : Int32).toNatClampNeg)) = z := ⟨_, rfl⟩
      rw [hw_15] at hP hD
      have hv17_15 : (row_15 (17 : Int32).toNatClampNeg).toInt = (row_13 (17 : Int32).toNatClampNeg).toInt := by rw [← hw_15, pk_un (by have l_mm1m : ((-1) : Int32).toInt = (-1) := (by decide); have l_15 : (15 : Int32).toInt = 15 := (by decide); have l_17 : (17 : Int32).toInt = 17 := (by decide); have l_4 : (4 : Int32).toInt = 4 := (by decide); have qc_1 := c_1; (try simp only [fc_le, fc_lt, fc_eq] at qc_1); have qc_7 := c_7; (try simp only [fc_le, fc_lt, fc_eq] at qc_7); simp only [fc_cl]; omega)]
      refine lv_aload_n hx hb dX8_shootIn_119 rfl (lv_at hl 3 rfl) ?_
      refine lv_bipush (v := 17) hx hb dX8_shootIn_120 (by decide) ?_
      refine lv_dup2_11 hx hb dX8_shootIn_122 rfl rfl ?_
      refine va_iald (D := D) hx hb hK hP 0 0 rfl rfl (vp_in_iff.mpr (by decide)) dX8_shootIn_123 ?_
      refine lv_iconst (v := 1) hx hb dX8_shootIn_124 (by decide) ?_
      refine lv_iadd hx hb dX8_shootIn_125 ?_
      refine va_iast (D := D) hx hb hK hP hD hS 0 0 rfl rfl (vp_in_iff.mpr (by decide)) dX8_shootIn_126 (fun H locs hP hD hS => ?_)
      have hP : va_P D vwCl [(rw, .inl (tc 0, 357, .inl (upd row_15 (17 : Int32).toNatClampNeg ((row_15 (17 : Int32).toNatClampNeg) + 1))))] H := hP
      have hD : va_D A [(rw, .inl (tc 0, 357, .inl (upd row_15 (17 : Int32).toNatClampNeg ((row_15 (17 : Int32).toNatClampNeg) + 1))))] := hD
      obtain ⟨row_16, hw_16⟩ : ∃ z, (upd row_15 (17 : Int32).toNatClampNeg ((row_15 (17 : Int32).toNatClampNeg) + 1)) = z := ⟨_, rfl⟩
      rw [hw_16] at hP hD
      have hv17_16 : (row_16 (17 : Int32).toNatClampNeg).toInt = (((row_15 (17 : Int32).toNatClampNeg) + 1)).toInt := by rw [← hw_16, pk_us]
      have av16_1 := fc_add (x := (row_15 (17 : Int32).toNatClampNeg)) (y := 1) (by omega) (by omega)
      refine lv_iload_n hx hb dX8_shootIn_127 rfl (lv_at hl 2 rfl) ?_
      exact hret _ _ (row (5 : Int32).toNatClampNeg) row_16 _ _ (by rw [mX8_shootIn]; (try dsimp only); rw [if_neg c_1]; rw [hw_2]; (try dsimp only); rw [hw_3]; (try dsimp only); rw [hw_4]; (try dsimp only); rw [hw_5]; (try dsimp only); rw [hw_6]; (try dsimp only); rw [if_neg c_7]; rw [hw_8]; (try dsimp only); rw [hw_9]; (try dsimp only); rw [hw_10]; (try dsimp only); rw [hw_11]; (try dsimp only); rw [hw_12]; (try dsimp only); rw [hw_13]; (try dsimp only); rw [hw_14]; (try dsimp only); rw [hw_15]; (try dsimp only); rw [hw_16]; (try dsimp only); (first | done | rfl)) (hP.sub [0] rfl) (hD.sub [0] (by decide) rfl) hS dX8_shootIn_128
    · refine lv_aload_n hx hb dX8_shootIn_57 rfl (lv_at hl 2 rfl) ?_
      refine lv_bipush (v := 7) hx hb dX8_shootIn_58 (by decide) ?_
      refine lv_dup2_11 hx hb dX8_shootIn_60 rfl rfl ?_
      refine va_iald (D := D) hx hb hK hP 0 0 rfl rfl (vp_in_iff.mpr (by decide)) dX8_shootIn_61 ?_
      refine lv_iconst (v := 1) hx hb dX8_shootIn_62 (by decide) ?_
      refine lv_iadd hx hb dX8_shootIn_63 ?_
      refine va_iast (D := D) hx hb hK hP hD hS 0 0 rfl rfl (vp_in_iff.mpr (by decide)) dX8_shootIn_64 (fun H locs hP hD hS => ?_)
      have hP : va_P D vwCl [(rw, .inl (tc 0, 357, .inl (upd row_6 (7 : Int32).toNatClampNeg ((row_6 (7 : Int32).toNatClampNeg) + 1))))] H := hP
      have hD : va_D A [(rw, .inl (tc 0, 357, .inl (upd row_6 (7 : Int32).toNatClampNeg ((row_6 (7 : Int32).toNatClampNeg) + 1))))] := hD
      obtain ⟨row_17, hw_17⟩ : ∃ z, (upd row_6 (7 : Int32).toNatClampNeg ((row_6 (7 : Int32).toNatClampNeg) + 1)) = z := ⟨_, rfl⟩
      rw [hw_17] at hP hD
      have hv17_17 : (row_17 (17 : Int32).toNatClampNeg).toInt = (row_6 (17 : Int32).toNatClampNeg).toInt := by rw [← hw_17, pk_un (by decide)]
      refine lv_aload_n hx hb dX8_shootIn_65 rfl (lv_at hl 2 rfl) ?_
      refine lv_bipush (v := 14) hx hb dX8_shootIn_66 (by decide) ?_
      refine lv_dup2_11 hx hb dX8_shootIn_68 rfl rfl ?_
      refine va_iald (D := D) hx hb hK hP 0 0 rfl rfl (vp_in_iff.mpr (by decide)) dX8_shootIn_69 ?_
      refine lv_iconst (v := 1) hx hb dX8_shootIn_70 (by decide) ?_
      refine lv_iadd hx hb dX8_shootIn_71 ?_
      refine va_iast (D := D) hx hb hK hP hD hS 0 0 rfl rfl (vp_in_iff.mpr (by decide)) dX8_shootIn_72 (fun H locs hP hD hS => ?_)
      have hP : va_P D vwCl [(rw, .inl (tc 0, 357, .inl (upd row_17 (14 : Int32).toNatClampNeg ((row_17 (14 : Int32).toNatClampNeg) + 1))))] H := hP
      have hD : va_D A [(rw, .inl (tc 0, 357, .inl (upd row_17 (14 : Int32).toNatClampNeg ((row_17 (14 : Int32).toNatClampNeg) + 1))))] := hD
      obtain ⟨row_18, hw_18⟩ : ∃ z, (upd row_17 (14 : Int32).toNatClampNeg ((row_17 (14 : Int32).toNatClampNeg) + 1)) = z := ⟨_, rfl⟩
      rw [hw_18] at hP hD
      have hv17_18 : (row_18 (17 : Int32).toNatClampNeg).toInt = (row_17 (17 : Int32).toNatClampNeg).toInt := by rw [← hw_18, pk_un (by decide)]
      refine lv_iconst (v := (-1)) hx hb dX8_shootIn_73 (by decide) ?_
      exact hret _ _ (-1) row_18 _ _ (by rw [mX8_shootIn]; (try dsimp only); rw [if_neg c_1]; rw [hw_2]; (try dsimp only); rw [hw_3]; (try dsimp only); rw [hw_4]; (try dsimp only); rw [hw_5]; (try dsimp only); rw [hw_6]; (try dsimp only); rw [if_pos c_7]; rw [hw_17]; (try dsimp only); rw [hw_18]; (try dsimp only); (first | done | rfl)) (hP.sub [0] rfl) (hD.sub [0] (by decide) rfl) hS dX8_shootIn_74
  · refine lv_bipush (v := 7) hx hb dX8_shootIn_12 (by decide) ?_
    refine lv_goto (tgt := 28) hx hb dX8_shootIn_14 (by decide) ?_
    refine lv_istore_n (lv' := [(3, .int 7), (2, .int (row (5 : Int32).toNatClampNeg)), (0, .ref rw), (1, .int p1)]) hx hb dX8_shootIn_28 rfl hl (by decide) rfl (fun ls hl => ?_)
    refine lv_aload_n hx hb dX8_shootIn_29 rfl (lv_at hl 2 rfl) ?_
    refine lv_iconst (v := 5) hx hb dX8_shootIn_30 (by decide) ?_
    refine lv_dup2_11 hx hb dX8_shootIn_31 rfl rfl ?_
    refine va_iald (D := D) hx hb hK hP 0 0 rfl rfl (vp_in_iff.mpr (by decide)) dX8_shootIn_32 ?_
    refine lv_iconst (v := 1) hx hb dX8_shootIn_33 (by decide) ?_
    refine lv_iadd hx hb dX8_shootIn_34 ?_
    refine va_iast (D := D) hx hb hK hP hD hS 0 0 rfl rfl (vp_in_iff.mpr (by decide)) dX8_shootIn_35 (fun H locs hP hD hS => ?_)
    have hP : va_P D vwCl [(rw, .inl (tc 0, 357, .inl (upd row (5 : Int32).toNatClampNeg ((row (5 : Int32).toNatClampNeg) + 1))))] H := hP
    have hD : va_D A [(rw, .inl (tc 0, 357, .inl (upd row (5 : Int32).toNatClampNeg ((row (5 : Int32).toNatClampNeg) + 1))))] := hD
    obtain ⟨row_19, hw_19⟩ : ∃ z, (upd row (5 : Int32).toNatClampNeg ((row (5 : Int32).toNatClampNeg) + 1)) = z := ⟨_, rfl⟩
    rw [hw_19] at hP hD
    have hv17_19 : (row_19 (17 : Int32).toNatClampNeg).toInt = (row (17 : Int32).toNatClampNeg).toInt := by rw [← hw_19, pk_un (by decide)]
    refine lv_aload_n hx hb dX8_shootIn_36 rfl (lv_at hl 2 rfl) ?_
    refine lv_bipush (v := 13) hx hb dX8_shootIn_37 (by decide) ?_
    refine lv_dup2_11 hx hb dX8_shootIn_39 rfl rfl ?_
    refine va_iald (D := D) hx hb hK hP 0 0 rfl rfl (vp_in_iff.mpr (by decide)) dX8_shootIn_40 ?_
    refine lv_iconst (v := 1) hx hb dX8_shootIn_41 (by decide) ?_
    refine lv_iadd hx hb dX8_shootIn_42 ?_
    refine va_iast (D := D) hx hb hK hP hD hS 0 0 rfl rfl (vp_in_iff.mpr (by decide)) dX8_shootIn_43 (fun H locs hP hD hS => ?_)
    have hP : va_P D vwCl [(rw, .inl (tc 0, 357, .inl (upd row_19 (13 : Int32).toNatClampNeg ((row_19 (13 : Int32).toNatClampNeg) + 1))))] H := hP
    have hD : va_D A [(rw, .inl (tc 0, 357, .inl (upd row_19 (13 : Int32).toNatClampNeg ((row_19 (13 : Int32).toNatClampNeg) + 1))))] := hD
    obtain ⟨row_20, hw_20⟩ : ∃ z, (upd row_19 (13 : Int32).toNatClampNeg ((row_19 (13 : Int32).toNatClampNeg) + 1)) = z := ⟨_, rfl⟩
    rw [hw_20] at hP hD
    have hv17_20 : (row_20 (17 : Int32).toNatClampNeg).toInt = (row_19 (17 : Int32).toNatClampNeg).toInt := by rw [← hw_20, pk_un (by decide)]
    refine lv_aload_n hx hb dX8_shootIn_44 rfl (lv_at hl 2 rfl) ?_
    refine lv_bipush (v := 15) hx hb dX8_shootIn_45 (by decide) ?_
    refine lv_iload_n hx hb dX8_shootIn_47 rfl (lv_at hl 3 rfl) ?_
    refine va_iast (D := D) hx hb hK hP hD hS 0 0 rfl rfl (vp_in_iff.mpr (by decide)) dX8_shootIn_48 (fun H locs hP hD hS => ?_)
    have hP : va_P D vwCl [(rw, .inl (tc 0, 357, .inl (upd row_20 (15 : Int32).toNatClampNeg p1)))] H := hP
    have hD : va_D A [(rw, .inl (tc 0, 357, .inl (upd row_20 (15 : Int32).toNatClampNeg p1)))] := hD
    obtain ⟨row_21, hw_21⟩ : ∃ z, (upd row_20 (15 : Int32).toNatClampNeg p1) = z := ⟨_, rfl⟩
    rw [hw_21] at hP hD
    have hv17_21 : (row_21 (17 : Int32).toNatClampNeg).toInt = (row_20 (17 : Int32).toNatClampNeg).toInt := by rw [← hw_21, pk_un (by decide)]
    refine lv_aload_n hx hb dX8_shootIn_49 rfl (lv_at hl 2 rfl) ?_
    refine lv_bipush (v := 17) hx hb dX8_shootIn_50 (by decide) ?_
    refine va_iald (D := D) hx hb hK hP 0 0 rfl rfl (vp_in_iff.mpr (by decide)) dX8_shootIn_52 ?_
    refine lv_iconst (v := 4) hx hb dX8_shootIn_53 (by decide) ?_
    refine lv_icmp_ne (tgt := 75) hx hb dX8_shootIn_54 (by decide) (fun c_22 => ?_) (fun c_22 => ?_)
    · refine lv_aload_n hx hb dX8_shootIn_75 rfl (lv_at hl 2 rfl) ?_
      refine lv_bipush (v := 17) hx hb dX8_shootIn_76 (by decide) ?_
      refine va_iald (D := D) hx hb hK hP 0 0 rfl rfl (vp_in_iff.mpr (by decide)) dX8_shootIn_78 ?_
      refine lv_istore (lv' := [(4, .int (row_21 (17 : Int32).toNatClampNeg)), (3, .int 7), (2, .int (row (5 : Int32).toNatClampNeg)), (0, .ref rw), (1, .int p1)]) hx hb dX8_shootIn_79 hl (by decide) rfl (fun ls hl => ?_)
      refine lv_aload_n hx hb dX8_shootIn_81 rfl (lv_at hl 3 rfl) ?_
      refine lv_iload hx hb dX8_shootIn_82 (lv_at hl 0 rfl) ?_
      refine lv_iconst (v := 0) hx hb dX8_shootIn_84 (by decide) ?_
      refine fc_goi (isC := []) (isR := [0]) (wc := []) (wr := [(rw, .inl (tc 0, 357, .inl row_21))]) hP hD hS hA rfl rfl (by decide) (by decide) (fc_runS (isC := []) (As := [.int (row_21 (17 : Int32).toNatClampNeg), .int 0]) (rest := [.ref rw]) hx hb hml hown hts hK hE hP hD hS hA rfl (by decide) (c_X8_waitAt l D tc (row_21 (17 : Int32).toNatClampNeg) 0 _ ) (cwS 2 hts gX8_shootIn_X8_waitAt rfl rfl rfl hd_X8_waitAt ⟨Nat.le_of_ble_eq_true rfl, Nat.le_of_ble_eq_true rfl⟩) rfl hl.1 rfl (Nat.le_of_ble_eq_true rfl) dX8_shootIn_85 ⟨Nat.le_of_ble_eq_true rfl, Nat.le_of_ble_eq_true rfl⟩) (fun r_23 u_23 H locs hw_23 hP hD hS => ?_)
      try dsimp only at hw_23
      have hP : va_P D vwCl [(rw, .inl (tc 0, 357, .inl row_21))] H := hP
      have hD : va_D A [(rw, .inl (tc 0, 357, .inl row_21))] := hD
      have hf_23 := fx_waitAt hw_23 (by omega) (by decide)
      refine lv_iload_n hx hb dX8_shootIn_88 rfl (lv_at hl 2 rfl) ?_
      refine va_iast (D := D) hx hb hK hP hD hS 0 0 rfl rfl (by have l_mm1m : ((-1) : Int32).toInt = (-1) := (by decide); have l_15 : (15 : Int32).toInt = 15 := (by decide); have l_17 : (17 : Int32).toInt = 17 := (by decide); have l_4 : (4 : Int32).toInt = 4 := (by decide); have qc_1 := c_1; (try simp only [fc_le, fc_lt, fc_eq] at qc_1); have qc_22 := c_22; (try simp only [fc_le, fc_lt, fc_eq] at qc_22); rw [vp_in_iff]; omega) dX8_shootIn_89 (fun H locs hP hD hS => ?_)
      have hP : va_P D vwCl [(rw, .inl (tc 0, 357, .inl (upd row_21 r_23.toNatClampNeg (row (5 : Int32).toNatClampNeg))))] H := hP
      have hD : va_D A [(rw, .inl (tc 0, 357, .inl (upd row_21 r_23.toNatClampNeg (row (5 : Int32).toNatClampNeg))))] := hD
      obtain ⟨row_24, hw_24⟩ : ∃ z, (upd row_21 r_23.toNatClampNeg (row (5 : Int32).toNatClampNeg)) = z := ⟨_, rfl⟩
      rw [hw_24] at hP hD
      have hv17_24 : (row_24 (17 : Int32).toNatClampNeg).toInt = (row_21 (17 : Int32).toNatClampNeg).toInt := by rw [← hw_24, pk_un (by have l_mm1m : ((-1) : Int32).toInt = (-1) := (by decide); have l_15 : (15 : Int32).toInt = 15 := (by decide); have l_17 : (17 : Int32).toInt = 17 := (by decide); have l_4 : (4 : Int32).toInt = 4 := (by decide); have qc_1 := c_1; (try simp only [fc_le, fc_lt, fc_eq] at qc_1); have qc_22 := c_22; (try simp only [fc_le, fc_lt, fc_eq] at qc_22); simp only [fc_cl]; omega)]
      refine lv_aload_n hx hb dX8_shootIn_90 rfl (lv_at hl 3 rfl) ?_
      refine lv_iload hx hb dX8_shootIn_91 (lv_at hl 0 rfl) ?_
      refine lv_iconst (v := 1) hx hb dX8_shootIn_93 (by decide) ?_
      refine fc_goi (isC := []) (isR := [0]) (wc := []) (wr := [(rw, .inl (tc 0, 357, .inl row_24))]) hP hD hS hA rfl rfl (by decide) (by decide) (fc_runS (isC := []) (As := [.int (row_21 (17 : Int32).toNatClampNeg), .int 1]) (rest := [.ref rw]) hx hb hml hown hts hK hE hP hD hS hA rfl (by decide) (c_X8_waitAt l D tc (row_21 (17 : Int32).toNatClampNeg) 1 _ ) (cwS 2 hts gX8_shootIn_X8_waitAt rfl rfl rfl hd_X8_waitAt ⟨Nat.le_of_ble_eq_true rfl, Nat.le_of_ble_eq_true rfl⟩) rfl hl.1 rfl (Nat.le_of_ble_eq_true rfl) dX8_shootIn_94 ⟨Nat.le_of_ble_eq_true rfl, Nat.le_of_ble_eq_true rfl⟩) (fun r_25 u_25 H locs hw_25 hP hD hS => ?_)
      try dsimp only at hw_25
      have hP : va_P D vwCl [(rw, .inl (tc 0, 357, .inl row_24))] H := hP
      have hD : va_D A [(rw, .inl (tc 0, 357, .inl row_24))] := hD
      have hf_25 := fx_waitAt hw_25 (by omega) (by decide)
      refine lv_iload_n hx hb dX8_shootIn_97 rfl (lv_at hl 4 rfl) ?_
      refine va_iast (D := D) hx hb hK hP hD hS 0 0 rfl rfl (by have l_mm1m : ((-1) : Int32).toInt = (-1) := (by decide); have l_15 : (15 : Int32).toInt = 15 := (by decide); have l_17 : (17 : Int32).toInt = 17 := (by decide); have l_4 : (4 : Int32).toInt = 4 := (by decide); have qc_1 := c_1; (try simp only [fc_le, fc_lt, fc_eq] at qc_1); have qc_22 := c_22; (try simp only [fc_le, fc_lt, fc_eq] at qc_22); rw [vp_in_iff]; omega) dX8_shootIn_98 (fun H locs hP hD hS => ?_)
      have hP : va_P D vwCl [(rw, .inl (tc 0, 357, .inl (upd row_24 r_25.toNatClampNeg p1)))] H := hP
      have hD : va_D A [(rw, .inl (tc 0, 357, .inl (upd row_24 r_25.toNatClampNeg p1)))] := hD
      obtain ⟨row_26, hw_26⟩ : ∃ z, (upd row_24 r_25.toNatClampNeg p1) = z := ⟨_, rfl⟩
      rw [hw_26] at hP hD
      have hv17_26 : (row_26 (17 : Int32).toNatClampNeg).toInt = (row_24 (17 : Int32).toNatClampNeg).toInt := by rw [← hw_26, pk_un (by have l_mm1m : ((-1) : Int32).toInt = (-1) := (by decide); have l_15 : (15 : Int32).toInt = 15 := (by decide); have l_17 : (17 : Int32).toInt = 17 := (by decide); have l_4 : (4 : Int32).toInt = 4 := (by decide); have qc_1 := c_1; (try simp only [fc_le, fc_lt, fc_eq] at qc_1); have qc_22 := c_22; (try simp only [fc_le, fc_lt, fc_eq] at qc_22); simp only [fc_cl]; omega)]
      refine lv_aload_n hx hb dX8_shootIn_99 rfl (lv_at hl 3 rfl) ?_
      refine lv_iload hx hb dX8_shootIn_100 (lv_at hl 0 rfl) ?_
      refine lv_iconst (v := 2) hx hb dX8_shootIn_102 (by decide) ?_
      refine fc_goi (isC := []) (isR := [0]) (wc := []) (wr := [(rw, .inl (tc 0, 357, .inl row_26))]) hP hD hS hA rfl rfl (by decide) (by decide) (fc_runS (isC := []) (As := [.int (row_21 (17 : Int32).toNatClampNeg), .int 2]) (rest := [.ref rw]) hx hb hml hown hts hK hE hP hD hS hA rfl (by decide) (c_X8_waitAt l D tc (row_21 (17 : Int32).toNatClampNeg) 2 _ ) (cwS 2 hts gX8_shootIn_X8_waitAt rfl rfl rfl hd_X8_waitAt ⟨Nat.le_of_ble_eq_true rfl, Nat.le_of_ble_eq_true rfl⟩) rfl hl.1 rfl (Nat.le_of_ble_eq_true rfl) dX8_shootIn_103 ⟨Nat.le_of_ble_eq_true rfl, Nat.le_of_ble_eq_true rfl⟩) (fun r_27 u_27 H locs hw_27 hP hD hS => ?_)
      try dsimp only at hw_27
      have hP : va_P D vwCl [(rw, .inl (tc 0, 357, .inl row_26))] H := hP
      have hD : va_D A [(rw, .inl (tc 0, 357, .inl row_26))] := hD
      have hf_27 := fx_waitAt hw_27 (by omega) (by decide)
      refine lv_iload_n hx hb dX8_shootIn_106 rfl (lv_at hl 1 rfl) ?_
      refine va_iast (D := D) hx hb hK hP hD hS 0 0 rfl rfl (by have l_mm1m : ((-1) : Int32).toInt = (-1) := (by decide); have l_15 : (15 : Int32).toInt = 15 := (by decide); have l_17 : (17 : Int32).toInt = 17 := (by decide); have l_4 : (4 : Int32).toInt = 4 := (by decide); have qc_1 := c_1; (try simp only [fc_le, fc_lt, fc_eq] at qc_1); have qc_22 := c_22; (try simp only [fc_le, fc_lt, fc_eq] at qc_22); rw [vp_in_iff]; omega) dX8_shootIn_107 (fun H locs hP hD hS => ?_)
      have hP : va_P D vwCl [(rw, .inl (tc 0, 357, .inl (upd row_26 r_27.toNatClampNeg 7)))] H := hP
      have hD : va_D A [(rw, .inl (tc 0, 357, .inl (upd row_26 r_27.toNatClampNeg 7)))] := hD
      obtain ⟨row_28, hw_28⟩ : ∃ z, (upd row_26 r_27.toNatClampNeg 7) = z := ⟨_, rfl⟩
      rw [hw_28] at hP hD
      have hv17_28 : (row_28 (17 : Int32).toNatClampNeg).toInt = (row_26 (17 : Int32).toNatClampNeg).toInt := by rw [← hw_28, pk_un (by have l_mm1m : ((-1) : Int32).toInt = (-1) := (by decide); have l_15 : (15 : Int32).toInt = 15 := (by decide); have l_17 : (17 : Int32).toInt = 17 := (by decide); have l_4 : (4 : Int32).toInt = 4 := (by decide); have qc_1 := c_1; (try simp only [fc_le, fc_lt, fc_eq] at qc_1); have qc_22 := c_22; (try simp only [fc_le, fc_lt, fc_eq] at qc_22); simp only [fc_cl]; omega)]
      refine lv_aload_n hx hb dX8_shootIn_108 rfl (lv_at hl 3 rfl) ?_
      refine lv_iload hx hb dX8_shootIn_109 (lv_at hl 0 rfl) ?_
      refine lv_iconst (v := 3) hx hb dX8_shootIn_111 (by decide) ?_
      refine fc_goi (isC := []) (isR := [0]) (wc := []) (wr := [(rw, .inl (tc 0, 357, .inl row_28))]) hP hD hS hA rfl rfl (by decide) (by decide) (fc_runS (isC := []) (As := [.int (row_21 (17 : Int32).toNatClampNeg), .int 3]) (rest := [.ref rw]) hx hb hml hown hts hK hE hP hD hS hA rfl (by decide) (c_X8_waitAt l D tc (row_21 (17 : Int32).toNatClampNeg) 3 _ ) (cwS 2 hts gX8_shootIn_X8_waitAt rfl rfl rfl hd_X8_waitAt ⟨Nat.le_of_ble_eq_true rfl, Nat.le_of_ble_eq_true rfl⟩) rfl hl.1 rfl (Nat.le_of_ble_eq_true rfl) dX8_shootIn_112 ⟨Nat.le_of_ble_eq_true rfl, Nat.le_of_ble_eq_true rfl⟩) (fun r_29 u_29 H locs hw_29 hP hD hS => ?_)
      try dsimp only at hw_29
      have hP : va_P D vwCl [(rw, .inl (tc 0, 357, .inl row_28))] H := hP
      have hD : va_D A [(rw, .inl (tc 0, 357, .inl row_28))] := hD
      have hf_29 := fx_waitAt hw_29 (by omega) (by decide)
      refine lv_aload_n hx hb dX8_shootIn_115 rfl (lv_at hl 3 rfl) ?_
      refine lv_iconst (v := 4) hx hb dX8_shootIn_116 (by decide) ?_
      refine va_iald (D := D) hx hb hK hP 0 0 rfl rfl (vp_in_iff.mpr (by decide)) dX8_shootIn_117 ?_
      refine va_iast (D := D) hx hb hK hP hD hS 0 0 rfl rfl (by have l_mm1m : ((-1) : Int32).toInt = (-1) := (by decide); have l_15 : (15 : Int32).toInt = 15 := (by decide); have l_17 : (17 : Int32).toInt = 17 := (by decide); have l_4 : (4 : Int32).toInt = 4 := (by decide); have qc_1 := c_1; (try simp only [fc_le, fc_lt, fc_eq] at qc_1); have qc_22 := c_22; (try simp only [fc_le, fc_lt, fc_eq] at qc_22); rw [vp_in_iff]; omega) dX8_shootIn_118 (fun H locs hP hD hS => ?_)
      have hP : va_P D vwCl [(rw, .inl (tc 0, 357, .inl (upd row_28 r_29.toNatClampNeg (row_28 (4 : Int32).toNatClampNeg))))] H := hP
      have hD : va_D A [(rw, .inl (tc 0, 357, .inl (upd row_28 r_29.toNatClampNeg (row_28 (4 : Int32).toNatClampNeg))))] := hD
      obtain ⟨row_30, hw_30⟩ : ∃ z, (upd row_28 r_29.toNatClampNeg (row_28 (4 : Int32).toNatClampNeg)) = z := ⟨_, rfl⟩
      rw [hw_30] at hP hD
      have hv17_30 : (row_30 (17 : Int32).toNatClampNeg).toInt = (row_28 (17 : Int32).toNatClampNeg).toInt := by rw [← hw_30, pk_un (by have l_mm1m : ((-1) : Int32).toInt = (-1) := (by decide); have l_15 : (15 : Int32).toInt = 15 := (by decide); have l_17 : (17 : Int32).toInt = 17 := (by decide); have l_4 : (4 : Int32).toInt = 4 := (by decide); have qc_1 := c_1; (try simp only [fc_le, fc_lt, fc_eq] at qc_1); have qc_22 := c_22; (try simp only [fc_le, fc_lt, fc_eq] at qc_22); simp only [fc_cl]; omega)]
      refine lv_aload_n hx hb dX8_shootIn_119 rfl (lv_at hl 3 rfl) ?_
      refine lv_bipush (v := 17) hx hb dX8_shootIn_120 (by decide) ?_
      refine lv_dup2_11 hx hb dX8_shootIn_122 rfl rfl ?_
      refine va_iald (D := D) hx hb hK hP 0 0 rfl rfl (vp_in_iff.mpr (by decide)) dX8_shootIn_123 ?_
      refine lv_iconst (v := 1) hx hb dX8_shootIn_124 (by decide) ?_
      refine lv_iadd hx hb dX8_shootIn_125 ?_
      refine va_iast (D := D) hx hb hK hP hD hS 0 0 rfl rfl (vp_in_iff.mpr (by decide)) dX8_shootIn_126 (fun H locs hP hD hS => ?_)
      have hP : va_P D vwCl [(rw, .inl (tc 0, 357, .inl (upd row_30 (17 : Int32).toNatClampNeg ((row_30 (17 : Int32).toNatClampNeg) + 1))))] H := hP
      have hD : va_D A [(rw, .inl (tc 0, 357, .inl (upd row_30 (17 : Int32).toNatClampNeg ((row_30 (17 : Int32).toNatClampNeg) + 1))))] := hD
      obtain ⟨row_31, hw_31⟩ : ∃ z, (upd row_30 (17 : Int32).toNatClampNeg ((row_30 (17 : Int32).toNatClampNeg) + 1)) = z := ⟨_, rfl⟩
      rw [hw_31] at hP hD
      have hv17_31 : (row_31 (17 : Int32).toNatClampNeg).toInt = (((row_30 (17 : Int32).toNatClampNeg) + 1)).toInt := by rw [← hw_31, pk_us]
      have av31_1 := fc_add (x := (row_30 (17 : Int32).toNatClampNeg)) (y := 1) (by omega) (by omega)
      refine lv_iload_n hx hb dX8_shootIn_127 rfl (lv_at hl 2 rfl) ?_
      exact hret _ _ (row (5 : Int32).toNatClampNeg) row_31 _ _ (by rw [mX8_shootIn]; (try dsimp only); rw [if_pos c_1]; rw [hw_19]; (try dsimp only); rw [hw_20]; (try dsimp only); rw [hw_21]; (try dsimp only); rw [if_neg c_22]; rw [hw_23]; (try dsimp only); rw [hw_24]; (try dsimp only); rw [hw_25]; (try dsimp only); rw [hw_26]; (try dsimp only); rw [hw_27]; (try dsimp only); rw [hw_28]; (try dsimp only); rw [hw_29]; (try dsimp only); rw [hw_30]; (try dsimp only); rw [hw_31]; (try dsimp only); (first | done | rfl)) (hP.sub [0] rfl) (hD.sub [0] (by decide) rfl) hS dX8_shootIn_128
    · refine lv_aload_n hx hb dX8_shootIn_57 rfl (lv_at hl 2 rfl) ?_
      refine lv_bipush (v := 7) hx hb dX8_shootIn_58 (by decide) ?_
      refine lv_dup2_11 hx hb dX8_shootIn_60 rfl rfl ?_
      refine va_iald (D := D) hx hb hK hP 0 0 rfl rfl (vp_in_iff.mpr (by decide)) dX8_shootIn_61 ?_
      refine lv_iconst (v := 1) hx hb dX8_shootIn_62 (by decide) ?_
      refine lv_iadd hx hb dX8_shootIn_63 ?_
      refine va_iast (D := D) hx hb hK hP hD hS 0 0 rfl rfl (vp_in_iff.mpr (by decide)) dX8_shootIn_64 (fun H locs hP hD hS => ?_)
      have hP : va_P D vwCl [(rw, .inl (tc 0, 357, .inl (upd row_21 (7 : Int32).toNatClampNeg ((row_21 (7 : Int32).toNatClampNeg) + 1))))] H := hP
      have hD : va_D A [(rw, .inl (tc 0, 357, .inl (upd row_21 (7 : Int32).toNatClampNeg ((row_21 (7 : Int32).toNatClampNeg) + 1))))] := hD
      obtain ⟨row_32, hw_32⟩ : ∃ z, (upd row_21 (7 : Int32).toNatClampNeg ((row_21 (7 : Int32).toNatClampNeg) + 1)) = z := ⟨_, rfl⟩
      rw [hw_32] at hP hD
      have hv17_32 : (row_32 (17 : Int32).toNatClampNeg).toInt = (row_21 (17 : Int32).toNatClampNeg).toInt := by rw [← hw_32, pk_un (by decide)]
      refine lv_aload_n hx hb dX8_shootIn_65 rfl (lv_at hl 2 rfl) ?_
      refine lv_bipush (v := 14) hx hb dX8_shootIn_66 (by decide) ?_
      refine lv_dup2_11 hx hb dX8_shootIn_68 rfl rfl ?_
      refine va_iald (D := D) hx hb hK hP 0 0 rfl rfl (vp_in_iff.mpr (by decide)) dX8_shootIn_69 ?_
      refine lv_iconst (v := 1) hx hb dX8_shootIn_70 (by decide) ?_
      refine lv_iadd hx hb dX8_shootIn_71 ?_
      refine va_iast (D := D) hx hb hK hP hD hS 0 0 rfl rfl (vp_in_iff.mpr (by decide)) dX8_shootIn_72 (fun H locs hP hD hS => ?_)
      have hP : va_P D vwCl [(rw, .inl (tc 0, 357, .inl (upd row_32 (14 : Int32).toNatClampNeg ((row_32 (14 : Int32).toNatClampNeg) + 1))))] H := hP
      have hD : va_D A [(rw, .inl (tc 0, 357, .inl (upd row_32 (14 : Int32).toNatClampNeg ((row_32 (14 : Int32).toNatClampNeg) + 1))))] := hD
      obtain ⟨row_33, hw_33⟩ : ∃ z, (upd row_32 (14 : Int32).toNatClampNeg ((row_32 (14 : Int32).toNatClampNeg) + 1)) = z := ⟨_, rfl⟩
      rw [hw_33] at hP hD
      have hv17_33 : (row_33 (17 : Int32).toNatClampNeg).toInt = (row_32 (17 : Int32).toNatClampNeg).toInt := by rw [← hw_33, pk_un (by decide)]
      refine lv_iconst (v := (-1)) hx hb dX8_shootIn_73 (by decide) ?_
      exact hret _ _ (-1) row_33 _ _ (by rw [mX8_shootIn]; (try dsimp only); rw [if_pos c_1]; rw [hw_19]; (try dsimp only); rw [hw_20]; (try dsimp only); rw [hw_21]; (try dsimp only); rw [if_pos c_22]; rw [hw_32]; (try dsimp only); rw [hw_33]; (try dsimp only); (first | done | rfl)) (hP.sub [0] rfl) (hD.sub [0] (by decide) rfl) hS dX8_shootIn_74
