/-! The reference: rows -/
theorem hd_X8_keptAt : yX8_keptAt.cls = RX8 ∧ yX8_keptAt.cls ≠ "java/lang/invoke/MethodHandle" ∧ yX8_keptAt.cls ≠ "java/lang/invoke/VarHandle" ∧ (parseMethodDescriptor yX8_keptAt.desc).map (fun d => d.parameters.length) = some 2 := by decide +kernel
theorem hd_X8_keptAtn : yX8_keptAt.cls ≠ "java/lang/invoke/MethodHandle" ∧ yX8_keptAt.cls ≠ "java/lang/invoke/VarHandle" ∧ (parseMethodDescriptor yX8_keptAt.desc).map (fun d => d.parameters.length) = some 2 := by decide +kernel
theorem hd_X8_difference : yX8_difference.cls = RX8 ∧ yX8_difference.cls ≠ "java/lang/invoke/MethodHandle" ∧ yX8_difference.cls ≠ "java/lang/invoke/VarHandle" ∧ (parseMethodDescriptor yX8_difference.desc).map (fun d => d.parameters.length) = some 2 := by decide +kernel
theorem hd_X8_differencen : yX8_difference.cls ≠ "java/lang/invoke/MethodHandle" ∧ yX8_difference.cls ≠ "java/lang/invoke/VarHandle" ∧ (parseMethodDescriptor yX8_difference.desc).map (fun d => d.parameters.length) = some 2 := by decide +kernel
noncomputable def mX8_changeOf (row : Nat → Int32) (p1 : Int32) : Int32 :=
  if p1 = 0 then
    (-1)
  else
    let r_2 := mX8_keptAt p1 1
    let r_3 := mX8_keptAt (p1 - 1) 1
    let r_4 := mX8_difference (row r_2.toNatClampNeg) (row r_3.toNatClampNeg)
    r_4
abbrev rmX8_changeOf : Room := { frames := 1, cells := 0, slots := 0, locals := 26 }
set_option maxHeartbeats 4000000 in
set_option maxRecDepth 100000 in
theorem c_X8_changeOf (l : Launch) (D : va_G) (tc : Nat → ClassId) (rw : Nat) (row : Nat → Int32) (p1 : Int32) (sz : Nat) (hi : 0 ≤ p1.toInt ∧ p1.toInt ≤ 50) : Met l yX8_changeOf wsX8_changeOf rmX8_changeOf (va_Pc [.ref rw, .int p1] (fcB D tc [(rw, .inl (tc 0, 357, .inl row))] sz)) (va_Qi (fun (r : Int32) (_ : Unit) => mX8_changeOf row p1 = r) (fun u t => fcO D (va_A [(rw, .inl (tc 0, 357, .inl row))] sz) ((fun (_ : Unit) => [(rw, .inl (tc 0, 357, .inl row))]) u) t) (va_A [(rw, .inl (tc 0, 357, .inl row))] sz)) 0 0 (va_A [(rw, .inl (tc 0, 357, .inl row))] sz) := by
  refine fc_ofWi (own := RX8) (cc := cX8_changeOf) (maxL := 2) (W1 := (fun (_ : Unit) => [(rw, .inl (tc 0, 357, .inl row))])) rfl (by decide) rfl (Nat.le_of_ble_eq_true rfl) ?_
  intro p e s m args below meth c A Q hx hb hml hown hts hK hE hP hD hS hA hin hret ls hl
  have hl : lv_has ls 2 [(0, .ref rw), (1, .int p1)] := hl
  refine lv_iload_n hx hb dX8_changeOf_0 rfl (lv_at hl 1 rfl) ?_
  refine lv_if_ne (tgt := 8) hx hb dX8_changeOf_1 (by decide) (fun c_1 => ?_) (fun c_1 => ?_)
  · refine lv_aload_n hx hb dX8_changeOf_8 rfl (lv_at hl 0 rfl) ?_
    refine lv_iload_n hx hb dX8_changeOf_9 rfl (lv_at hl 1 rfl) ?_
    refine lv_iconst (v := 1) hx hb dX8_changeOf_10 (by decide) ?_
    refine fc_goi (isC := []) (isR := [0]) (wc := []) (wr := [(rw, .inl (tc 0, 357, .inl row))]) hP hD hS hA rfl rfl (by decide) (by decide) (fc_runS (isC := []) (As := [.int p1, .int 1]) (rest := [.ref rw]) hx hb hml hown hts hK hE hP hD hS hA rfl (by decide) (c_X8_keptAt l D tc p1 1 _ ) (cwS 2 hts gX8_changeOf_X8_keptAt rfl rfl rfl hd_X8_keptAt ⟨Nat.le_of_ble_eq_true rfl, Nat.le_of_ble_eq_true rfl⟩) rfl hl.1 rfl (Nat.le_of_ble_eq_true rfl) dX8_changeOf_11 ⟨Nat.le_of_ble_eq_true rfl, Nat.le_of_ble_eq_true rfl⟩) (fun r_2 u_2 H locs hw_2 hP hD hS => ?_)
    try dsimp only at hw_2
    have hP : va_P D vwCl [(rw, .inl (tc 0, 357, .inl row))] H := hP
    have hD : va_D A [(rw, .inl (tc 0, 357, .inl row))] := hD
    have hf_2 := fx_keptAt hw_2 (by omega) (by decide)
    refine va_iald (D := D) hx hb hK hP 0 0 rfl rfl (by have l_0 : (0 : Int32).toInt = 0 := (by decide); have l_1 : (1 : Int32).toInt = 1 := (by decide); have l_2 : (2 : Int32).toInt = 2 := (by decide); have l_3 : (3 : Int32).toInt = 3 := (by decide); have l_4 : (4 : Int32).toInt = 4 := (by decide); have qc_1 := c_1; (try simp only [fc_le, fc_lt, fc_eq] at qc_1); rw [vp_in_iff]; omega) dX8_changeOf_14 ?_
    refine lv_aload_n hx hb dX8_changeOf_15 rfl (lv_at hl 0 rfl) ?_
    refine lv_iload_n hx hb dX8_changeOf_16 rfl (lv_at hl 1 rfl) ?_
    refine lv_iconst (v := 1) hx hb dX8_changeOf_17 (by decide) ?_
    refine lv_isub hx hb dX8_changeOf_18 ?_
    refine lv_iconst (v := 1) hx hb dX8_changeOf_19 (by decide) ?_
    have b1 := fc_subk (x := p1) (k := 1) (n := 1) (by decide) (by omega) (by omega)
    refine fc_goi (isC := []) (isR := [0]) (wc := []) (wr := [(rw, .inl (tc 0, 357, .inl row))]) hP hD hS hA rfl rfl (by decide) (by decide) (fc_runS (isC := []) (As := [.int (p1 - 1), .int 1]) (rest := [.ref rw, .int (row r_2.toNatClampNeg)]) hx hb hml hown hts hK hE hP hD hS hA rfl (by decide) (c_X8_keptAt l D tc (p1 - 1) 1 _ ) (cwS 2 hts gX8_changeOf_X8_keptAt rfl rfl rfl hd_X8_keptAt ⟨Nat.le_of_ble_eq_true rfl, Nat.le_of_ble_eq_true rfl⟩) rfl hl.1 rfl (Nat.le_of_ble_eq_true rfl) dX8_changeOf_20 ⟨Nat.le_of_ble_eq_true rfl, Nat.le_of_ble_eq_true rfl⟩) (fun r_3 u_3 H locs hw_3 hP hD hS => ?_)
    try dsimp only at hw_3
    have hP : va_P D vwCl [(rw, .inl (tc 0, 357, .inl row))] H := hP
    have hD : va_D A [(rw, .inl (tc 0, 357, .inl row))] := hD
    have hf_3 := fx_keptAt hw_3 (by omega) (by decide)
    refine va_iald (D := D) hx hb hK hP 0 0 rfl rfl (by have l_0 : (0 : Int32).toInt = 0 := (by decide); have l_1 : (1 : Int32).toInt = 1 := (by decide); have l_2 : (2 : Int32).toInt = 2 := (by decide); have l_3 : (3 : Int32).toInt = 3 := (by decide); have l_4 : (4 : Int32).toInt = 4 := (by decide); have qc_1 := c_1; (try simp only [fc_le, fc_lt, fc_eq] at qc_1); rw [vp_in_iff]; omega) dX8_changeOf_23 ?_
    refine fc_goi (isC := []) (isR := [0]) (wc := []) (wr := [(rw, .inl (tc 0, 357, .inl row))]) hP hD hS hA rfl rfl (by decide) (by decide) (fc_runS (isC := []) (As := [.int (row r_2.toNatClampNeg), .int (row r_3.toNatClampNeg)]) (rest := []) hx hb hml hown hts hK hE hP hD hS hA rfl (by decide) (c_X8_difference l D tc (row r_2.toNatClampNeg) (row r_3.toNatClampNeg) _ ) (cwS 2 hts gX8_changeOf_X8_difference rfl rfl rfl hd_X8_difference ⟨Nat.le_of_ble_eq_true rfl, Nat.le_of_ble_eq_true rfl⟩) rfl hl.1 rfl (Nat.le_of_ble_eq_true rfl) dX8_changeOf_24 ⟨Nat.le_of_ble_eq_true rfl, Nat.le_of_ble_eq_true rfl⟩) (fun r_4 u_4 H locs hw_4 hP hD hS => ?_)
    try dsimp only at hw_4
    have hP : va_P D vwCl [(rw, .inl (tc 0, 357, .inl row))] H := hP
    have hD : va_D A [(rw, .inl (tc 0, 357, .inl row))] := hD
    exact hret _ _ (r_4) () _ _ (by rw [mX8_changeOf]; (try dsimp only); rw [if_neg c_1]; rw [hw_2]; (try dsimp only); rw [hw_3]; (try dsimp only); rw [hw_4]; (try dsimp only); (first | done | rfl)) (hP.sub [0] rfl) (hD.sub [0] (by decide) rfl) hS dX8_changeOf_27
  · refine lv_iconst (v := (-1)) hx hb dX8_changeOf_4 (by decide) ?_
    refine lv_goto (tgt := 27) hx hb dX8_changeOf_5 (by decide) ?_
    exact hret _ _ (-1) () _ _ (by rw [mX8_changeOf]; (try dsimp only); rw [if_pos c_1]; (first | done | rfl)) (hP.sub [0] rfl) (hD.sub [0] (by decide) rfl) hS dX8_changeOf_27
noncomputable def mX8_count_S4 (row : Nat → Int32) (p1 : Int32) (ih_4 : Int32 → Int32 → Int32) (x2h4 : Int32) (x3h4 : Int32) : Int32 :=
  if (row (3 : Int32).toNatClampNeg) ≤ x3h4 then
    x2h4
  else
    if (row ((19 + x3h4) : Int32).toNatClampNeg) = p1 then
      ih_4 (x2h4 + 1) (x3h4 + 1)
    else
      ih_4 (x2h4 + 0) (x3h4 + 1)
noncomputable def mX8_count_L4 (row : Nat → Int32) (p1 : Int32) (k : Nat) : Int32 → Int32 → Int32 := Nat.rec (motive := fun _ => Int32 → Int32 → Int32) (fun x2h4 x3h4 => 0) (fun _ ih => mX8_count_S4 row p1 ih) k
theorem mX8_count_L4_z (row : Nat → Int32) (p1 : Int32) (x2h4 : Int32) (x3h4 : Int32) : mX8_count_L4 row p1 0 x2h4 x3h4 = 0 := rfl
theorem mX8_count_L4_s (row : Nat → Int32) (p1 : Int32) (k : Nat) (x2h4 : Int32) (x3h4 : Int32) : mX8_count_L4 row p1 (k + 1) x2h4 x3h4 = mX8_count_S4 row p1 (mX8_count_L4 row p1 k) x2h4 x3h4 := rfl
noncomputable def mX8_count (row : Nat → Int32) (p1 : Int32) : Int32 :=
  mX8_count_L4 row p1 49 0 0
abbrev rmX8_count : Room := { frames := 0, cells := 0, slots := 0, locals := 0 }
set_option maxHeartbeats 4000000 in
set_option maxRecDepth 100000 in
theorem c_X8_count (l : Launch) (D : va_G) (tc : Nat → ClassId) (rw : Nat) (row : Nat → Int32) (p1 : Int32) (sz : Nat) (h3 : 8 ≤ (row (3 : Int32).toNatClampNeg).toInt ∧ (row (3 : Int32).toNatClampNeg).toInt ≤ 48) : Met l yX8_count wsX8_count rmX8_count (va_Pc [.ref rw, .int p1] (fcB D tc [(rw, .inl (tc 0, 357, .inl row))] sz)) (va_Qi (fun (r : Int32) (_ : Unit) => mX8_count row p1 = r) (fun u t => fcO D (va_A [(rw, .inl (tc 0, 357, .inl row))] sz) ((fun (_ : Unit) => [(rw, .inl (tc 0, 357, .inl row))]) u) t) (va_A [(rw, .inl (tc 0, 357, .inl row))] sz)) 0 0 (va_A [(rw, .inl (tc 0, 357, .inl row))] sz) := by
  refine fc_ofWi (own := RX8) (cc := cX8_count) (maxL := 4) (W1 := (fun (_ : Unit) => [(rw, .inl (tc 0, 357, .inl row))])) rfl (by decide) rfl (Nat.le_of_ble_eq_true rfl) ?_
  intro p e s m args below meth c A Q hx hb hml hown hts hK hE hP hD hS hA hin hret ls hl
  have hl : lv_has ls 4 [(0, .ref rw), (1, .int p1)] := hl
  refine lv_iconst (v := 0) hx hb dX8_count_0 (by decide) ?_
  refine lv_istore_n (lv' := [(2, .int 0), (0, .ref rw), (1, .int p1)]) hx hb dX8_count_1 rfl hl (by decide) rfl (fun ls hl => ?_)
  refine lv_iconst (v := 0) hx hb dX8_count_2 (by decide) ?_
  refine lv_istore_n (lv' := [(3, .int 0), (2, .int 0), (0, .ref rw), (1, .int p1)]) hx hb dX8_count_3 rfl hl (by decide) rfl (fun ls hl => ?_)
  have loop_4 : ∀ (k_4 : Nat) (i_4 : Nat) (x2h4 : Int32) (x3h4 : Int32) (hb_4 : x3h4 = nI i_4) (hm_4 : i_4 ≤ 48 ∧ 48 < i_4 + k_4) (hI_4 : mX8_count row p1 = mX8_count_L4 row p1 k_4 x2h4 x3h4) (H : Heap) (locs : List Loc), va_P D vwCl [(rw, .inl (tc 0, 357, .inl row))] H → va_D A [(rw, .inl (tc 0, 357, .inl row))] → va_S A s.heap H locs → ∀ ls : Array Slot, lv_has ls 4 [(3, .int x3h4), (2, .int x2h4), (0, .ref rw), (1, .int p1)] → W p l e rmX8_count s m args below meth c H locs 0 0 Q (F0 m 4 ls []) := by
    intro k_4
    induction k_4 with
    | zero =>
      intro i_4 x2h4 x3h4 hb_4 hm_4 hI_4 H locs hP hD hS ls hl
      exact absurd hm_4 (by omega)
    | succ k_4 ih_4 =>
      intro i_4 x2h4 x3h4 hb_4 hm_4 hI_4 H locs hP hD hS ls hl
      have zz_4 := fc_nI (n := i_4) (by omega)
      rw [← hb_4] at zz_4
      refine lv_iload_n hx hb dX8_count_4 rfl (lv_at hl 0 rfl) ?_
      refine lv_aload_n hx hb dX8_count_5 rfl (lv_at hl 2 rfl) ?_
      refine lv_iconst (v := 3) hx hb dX8_count_6 (by decide) ?_
      refine va_iald (D := D) hx hb hK hP 0 0 rfl rfl (vp_in_iff.mpr (by decide)) dX8_count_7 ?_
      refine lv_icmp_ge (tgt := 35) hx hb dX8_count_8 (by decide) (fun c_1 => ?_) (fun c_1 => ?_)
      · refine lv_iload_n hx hb dX8_count_35 rfl (lv_at hl 1 rfl) ?_
        exact hret _ _ (x2h4) () _ _ (by rw [hI_4, mX8_count_L4_s, mX8_count_S4]; (try dsimp only); rw [if_pos c_1]; (first | done | rfl)) (hP.sub [0] rfl) (hD.sub [0] (by decide) rfl) hS dX8_count_36
      · refine lv_iload_n hx hb dX8_count_11 rfl (lv_at hl 1 rfl) ?_
        refine lv_aload_n hx hb dX8_count_12 rfl (lv_at hl 2 rfl) ?_
        refine lv_bipush (v := 19) hx hb dX8_count_13 (by decide) ?_
        refine lv_iload_n hx hb dX8_count_15 rfl (lv_at hl 0 rfl) ?_
        refine lv_iadd hx hb dX8_count_16 ?_
        refine va_iald (D := D) hx hb hK hP 0 0 rfl rfl (by have l_0 : (0 : Int32).toInt = 0 := (by decide); have l_1 : (1 : Int32).toInt = 1 := (by decide); have l_19 : (19 : Int32).toInt = 19 := (by decide); have l_2 : (2 : Int32).toInt = 2 := (by decide); have l_3 : (3 : Int32).toInt = 3 := (by decide); have l_4 : (4 : Int32).toInt = 4 := (by decide); have qc_1 := c_1; (try simp only [fc_le, fc_lt, fc_eq] at qc_1); have a_1 := fc_kadd (x := x3h4) (k := 19) (n := 19) (by decide) (by omega) (by omega); rw [vp_in_iff]; omega) dX8_count_17 ?_
        refine lv_iload_n hx hb dX8_count_18 rfl (lv_at hl 3 rfl) ?_
        refine lv_icmp_ne (tgt := 26) hx hb dX8_count_19 (by decide) (fun c_2 => ?_) (fun c_2 => ?_)
        · refine lv_iconst (v := 0) hx hb dX8_count_26 (by decide) ?_
          refine lv_iadd hx hb dX8_count_27 ?_
          refine lv_istore_n (lv' := [(2, .int (x2h4 + 0)), (3, .int x3h4), (0, .ref rw), (1, .int p1)]) hx hb dX8_count_28 rfl hl (by decide) rfl (fun ls hl => ?_)
          refine lv_iinc (v := (x3h4 + 1)) (lv' := [(3, .int (x3h4 + 1)), (2, .int (x2h4 + 0)), (0, .ref rw), (1, .int p1)]) hx hb dX8_count_29 hl (k := 1) rfl rfl (by decide) rfl (fun ls hl => ?_)
          refine lv_goto (tgt := 4) hx hb dX8_count_32 (by decide) ?_
          exact ih_4 (i_4 + 1) (x2h4 + 0) (x3h4 + 1) (by rw [hb_4]; exact nI_1 _) (by have l_0 : (0 : Int32).toInt = 0 := (by decide); have l_1 : (1 : Int32).toInt = 1 := (by decide); have l_19 : (19 : Int32).toInt = 19 := (by decide); have l_2 : (2 : Int32).toInt = 2 := (by decide); have l_3 : (3 : Int32).toInt = 3 := (by decide); have l_4 : (4 : Int32).toInt = 4 := (by decide); have qc_1 := c_1; (try simp only [fc_le, fc_lt, fc_eq] at qc_1); have qc_2 := c_2; (try simp only [fc_le, fc_lt, fc_eq] at qc_2); skip; omega) (by rw [hI_4, mX8_count_L4_s, mX8_count_S4]; (try dsimp only); rw [if_neg c_1]; rw [if_neg c_2]; (first | done | rfl)) _ _ (hP.sub [0] rfl) (hD.sub [0] (by decide) rfl) hS ls (lv_sub hl [0, 1, 2, 3] rfl)
        · refine lv_iconst (v := 1) hx hb dX8_count_22 (by decide) ?_
          refine lv_goto (tgt := 27) hx hb dX8_count_23 (by decide) ?_
          refine lv_iadd hx hb dX8_count_27 ?_
          refine lv_istore_n (lv' := [(2, .int (x2h4 + 1)), (3, .int x3h4), (0, .ref rw), (1, .int p1)]) hx hb dX8_count_28 rfl hl (by decide) rfl (fun ls hl => ?_)
          refine lv_iinc (v := (x3h4 + 1)) (lv' := [(3, .int (x3h4 + 1)), (2, .int (x2h4 + 1)), (0, .ref rw), (1, .int p1)]) hx hb dX8_count_29 hl (k := 1) rfl rfl (by decide) rfl (fun ls hl => ?_)
          refine lv_goto (tgt := 4) hx hb dX8_count_32 (by decide) ?_
          exact ih_4 (i_4 + 1) (x2h4 + 1) (x3h4 + 1) (by rw [hb_4]; exact nI_1 _) (by have l_0 : (0 : Int32).toInt = 0 := (by decide); have l_1 : (1 : Int32).toInt = 1 := (by decide); have l_19 : (19 : Int32).toInt = 19 := (by decide); have l_2 : (2 : Int32).toInt = 2 := (by decide); have l_3 : (3 : Int32).toInt = 3 := (by decide); have l_4 : (4 : Int32).toInt = 4 := (by decide); have qc_1 := c_1; (try simp only [fc_le, fc_lt, fc_eq] at qc_1); have qc_2 := c_2; (try simp only [fc_le, fc_lt, fc_eq] at qc_2); skip; omega) (by rw [hI_4, mX8_count_L4_s, mX8_count_S4]; (try dsimp only); rw [if_neg c_1]; rw [if_pos c_2]; (first | done | rfl)) _ _ (hP.sub [0] rfl) (hD.sub [0] (by decide) rfl) hS ls (lv_sub hl [0, 1, 2, 3] rfl)
  exact loop_4 49 0 0 0 nI_0.symm (by omega) (by rw [mX8_count]; (first | done | rfl)) _ _ (hP.sub [0] rfl) (hD.sub [0] (by decide) rfl) hS ls (lv_sub hl [0, 1, 2, 3] rfl)
theorem hd_X8_changeOf : yX8_changeOf.cls = RX8 ∧ yX8_changeOf.cls ≠ "java/lang/invoke/MethodHandle" ∧ yX8_changeOf.cls ≠ "java/lang/invoke/VarHandle" ∧ (parseMethodDescriptor yX8_changeOf.desc).map (fun d => d.parameters.length) = some 2 := by decide +kernel
theorem hd_X8_changeOfn : yX8_changeOf.cls ≠ "java/lang/invoke/MethodHandle" ∧ yX8_changeOf.cls ≠ "java/lang/invoke/VarHandle" ∧ (parseMethodDescriptor yX8_changeOf.desc).map (fun d => d.parameters.length) = some 2 := by decide +kernel
noncomputable def mX8_leastOf_S19 (row : Nat → Int32) (ih_19 : Int32 → Int32 → Int32) (x1h19 : Int32) (x2h19 : Int32) : Int32 :=
  if (row (16 : Int32).toNatClampNeg) ≤ x2h19 then
    x1h19
  else
    let r_3 := mX8_changeOf row x2h19
    let r_4 := mX8_changeOf row x1h19
    if r_4 ≤ r_3 then
      ih_19 x1h19 (x2h19 + 1)
    else
      ih_19 x2h19 (x2h19 + 1)
noncomputable def mX8_leastOf_L19 (row : Nat → Int32) (k : Nat) : Int32 → Int32 → Int32 := Nat.rec (motive := fun _ => Int32 → Int32 → Int32) (fun x1h19 x2h19 => 0) (fun _ ih => mX8_leastOf_S19 row ih) k
theorem mX8_leastOf_L19_z (row : Nat → Int32) (x1h19 : Int32) (x2h19 : Int32) : mX8_leastOf_L19 row 0 x1h19 x2h19 = 0 := rfl
theorem mX8_leastOf_L19_s (row : Nat → Int32) (k : Nat) (x1h19 : Int32) (x2h19 : Int32) : mX8_leastOf_L19 row (k + 1) x1h19 x2h19 = mX8_leastOf_S19 row (mX8_leastOf_L19 row k) x1h19 x2h19 := rfl
noncomputable def mX8_leastOf (row : Nat → Int32) : Int32 :=
  if 2 ≤ (row (16 : Int32).toNatClampNeg) then
    mX8_leastOf_L19 row 47 1 2
  else
    ((row (16 : Int32).toNatClampNeg) - 1)
abbrev rmX8_leastOf : Room := { frames := 2, cells := 0, slots := 0, locals := 47 }
set_option maxHeartbeats 4000000 in
set_option maxRecDepth 100000 in
theorem c_X8_leastOf (l : Launch) (D : va_G) (tc : Nat → ClassId) (rw : Nat) (row : Nat → Int32) (sz : Nat) (h16 : (row (16 : Int32).toNatClampNeg).toInt ≤ 48) : Met l yX8_leastOf wsX8_leastOf rmX8_leastOf (va_Pc [.ref rw] (fcB D tc [(rw, .inl (tc 0, 357, .inl row))] sz)) (va_Qi (fun (r : Int32) (_ : Unit) => mX8_leastOf row = r) (fun u t => fcO D (va_A [(rw, .inl (tc 0, 357, .inl row))] sz) ((fun (_ : Unit) => [(rw, .inl (tc 0, 357, .inl row))]) u) t) (va_A [(rw, .inl (tc 0, 357, .inl row))] sz)) 0 0 (va_A [(rw, .inl (tc 0, 357, .inl row))] sz) := by
  refine fc_ofWi (own := RX8) (cc := cX8_leastOf) (maxL := 3) (W1 := (fun (_ : Unit) => [(rw, .inl (tc 0, 357, .inl row))])) rfl (by decide) rfl (Nat.le_of_ble_eq_true rfl) ?_
  intro p e s m args below meth c A Q hx hb hml hown hts hK hE hP hD hS hA hin hret ls hl
  have hl : lv_has ls 3 [(0, .ref rw)] := hl
  refine lv_aload_n hx hb dX8_leastOf_0 rfl (lv_at hl 0 rfl) ?_
  refine lv_bipush (v := 16) hx hb dX8_leastOf_1 (by decide) ?_
  refine va_iald (D := D) hx hb hK hP 0 0 rfl rfl (vp_in_iff.mpr (by decide)) dX8_leastOf_3 ?_
  refine lv_iconst (v := 2) hx hb dX8_leastOf_4 (by decide) ?_
  refine lv_icmp_ge (tgt := 15) hx hb dX8_leastOf_5 (by decide) (fun c_1 => ?_) (fun c_1 => ?_)
  · refine lv_iconst (v := 1) hx hb dX8_leastOf_15 (by decide) ?_
    refine lv_istore_n (lv' := [(1, .int 1), (0, .ref rw)]) hx hb dX8_leastOf_16 rfl hl (by decide) rfl (fun ls hl => ?_)
    refine lv_iconst (v := 2) hx hb dX8_leastOf_17 (by decide) ?_
    refine lv_istore_n (lv' := [(2, .int 2), (1, .int 1), (0, .ref rw)]) hx hb dX8_leastOf_18 rfl hl (by decide) rfl (fun ls hl => ?_)
    have loop_19 : ∀ (k_19 : Nat) (i_19 : Nat) (x1h19 : Int32) (x2h19 : Int32) (hb_19 : x2h19 = nI i_19) (hm_19 : i_19 ≤ 48 ∧ 48 < i_19 + k_19) (hx_19 : 0 ≤ x1h19.toInt ∧ x1h19.toInt ≤ 47) (hI_19 : mX8_leastOf row = mX8_leastOf_L19 row k_19 x1h19 x2h19) (H : Heap) (locs : List Loc), va_P D vwCl [(rw, .inl (tc 0, 357, .inl row))] H → va_D A [(rw, .inl (tc 0, 357, .inl row))] → va_S A s.heap H locs → ∀ ls : Array Slot, lv_has ls 3 [(2, .int x2h19), (1, .int x1h19), (0, .ref rw)] → W p l e rmX8_leastOf s m args below meth c H locs 0 0 Q (F0 m 19 ls []) := by
      intro k_19
      induction k_19 with
      | zero =>
        intro i_19 x1h19 x2h19 hb_19 hm_19 hx_19 hI_19 H locs hP hD hS ls hl
        exact absurd hm_19 (by omega)
      | succ k_19 ih_19 =>
        intro i_19 x1h19 x2h19 hb_19 hm_19 hx_19 hI_19 H locs hP hD hS ls hl
        have zz_19 := fc_nI (n := i_19) (by omega)
        rw [← hb_19] at zz_19
        refine lv_iload_n hx hb dX8_leastOf_19 rfl (lv_at hl 0 rfl) ?_
        refine lv_aload_n hx hb dX8_leastOf_20 rfl (lv_at hl 2 rfl) ?_
        refine lv_bipush (v := 16) hx hb dX8_leastOf_21 (by decide) ?_
        refine va_iald (D := D) hx hb hK hP 0 0 rfl rfl (vp_in_iff.mpr (by decide)) dX8_leastOf_23 ?_
        refine lv_icmp_ge (tgt := 52) hx hb dX8_leastOf_24 (by decide) (fun c_2 => ?_) (fun c_2 => ?_)
        · refine lv_iload_n hx hb dX8_leastOf_52 rfl (lv_at hl 1 rfl) ?_
          exact hret _ _ (x1h19) () _ _ (by rw [hI_19, mX8_leastOf_L19_s, mX8_leastOf_S19]; (try dsimp only); rw [if_pos c_2]; (first | done | rfl)) (hP.sub [0] rfl) (hD.sub [0] (by decide) rfl) hS dX8_leastOf_53
        · refine lv_aload_n hx hb dX8_leastOf_27 rfl (lv_at hl 2 rfl) ?_
          refine lv_iload_n hx hb dX8_leastOf_28 rfl (lv_at hl 0 rfl) ?_
          refine fc_goi (isC := [0]) (isR := []) (wc := [(rw, .inl (tc 0, 357, .inl row))]) (wr := []) hP hD hS hA rfl rfl (by decide) (by decide) (fc_runS (isC := [0]) (As := [.ref rw, .int x2h19]) (rest := []) hx hb hml hown hts hK hE hP hD hS hA rfl (by decide) (c_X8_changeOf l D tc rw row x2h19 _ (by have l_0 : (0 : Int32).toInt = 0 := (by decide); have l_1 : (1 : Int32).toInt = 1 := (by decide); have l_16 : (16 : Int32).toInt = 16 := (by decide); have l_2 : (2 : Int32).toInt = 2 := (by decide); have l_3 : (3 : Int32).toInt = 3 := (by decide); have l_4 : (4 : Int32).toInt = 4 := (by decide); have qc_2 := c_2; (try simp only [fc_le, fc_lt, fc_eq] at qc_2); (try simp only [fc_le, fc_lt, fc_eq]); omega)) (cwS 2 hts gX8_leastOf_X8_changeOf rfl rfl rfl hd_X8_changeOf ⟨Nat.le_of_ble_eq_true rfl, Nat.le_of_ble_eq_true rfl⟩) rfl hl.1 rfl (Nat.le_of_ble_eq_true rfl) dX8_leastOf_29 ⟨Nat.le_of_ble_eq_true rfl, Nat.le_of_ble_eq_true rfl⟩) (fun r_3 u_3 H locs hw_3 hP hD hS => ?_)
          try dsimp only at hw_3
          have hP : va_P D vwCl [(rw, .inl (tc 0, 357, .inl row))] H := hP
          have hD : va_D A [(rw, .inl (tc 0, 357, .inl row))] := hD
          refine lv_aload_n hx hb dX8_leastOf_32 rfl (lv_at hl 2 rfl) ?_
          refine lv_iload_n hx hb dX8_leastOf_33 rfl (lv_at hl 1 rfl) ?_
          refine fc_goi (isC := [0]) (isR := []) (wc := [(rw, .inl (tc 0, 357, .inl row))]) (wr := []) hP hD hS hA rfl rfl (by decide) (by decide) (fc_runS (isC := [0]) (As := [.ref rw, .int x1h19]) (rest := [.int r_3]) hx hb hml hown hts hK hE hP hD hS hA rfl (by decide) (c_X8_changeOf l D tc rw row x1h19 _ (by have l_0 : (0 : Int32).toInt = 0 := (by decide); have l_1 : (1 : Int32).toInt = 1 := (by decide); have l_16 : (16 : Int32).toInt = 16 := (by decide); have l_2 : (2 : Int32).toInt = 2 := (by decide); have l_3 : (3 : Int32).toInt = 3 := (by decide); have l_4 : (4 : Int32).toInt = 4 := (by decide); have qc_2 := c_2; (try simp only [fc_le, fc_lt, fc_eq] at qc_2); (try simp only [fc_le, fc_lt, fc_eq]); omega)) (cwS 2 hts gX8_leastOf_X8_changeOf rfl rfl rfl hd_X8_changeOf ⟨Nat.le_of_ble_eq_true rfl, Nat.le_of_ble_eq_true rfl⟩) rfl hl.1 rfl (Nat.le_of_ble_eq_true rfl) dX8_leastOf_34 ⟨Nat.le_of_ble_eq_true rfl, Nat.le_of_ble_eq_true rfl⟩) (fun r_4 u_4 H locs hw_4 hP hD hS => ?_)
          try dsimp only at hw_4
          have hP : va_P D vwCl [(rw, .inl (tc 0, 357, .inl row))] H := hP
          have hD : va_D A [(rw, .inl (tc 0, 357, .inl row))] := hD
          refine lv_icmp_ge (tgt := 44) hx hb dX8_leastOf_37 (by decide) (fun c_5 => ?_) (fun c_5 => ?_)
          · refine lv_iload_n hx hb dX8_leastOf_44 rfl (lv_at hl 1 rfl) ?_
            refine lv_istore_n (lv' := [(1, .int x1h19), (2, .int x2h19), (0, .ref rw)]) hx hb dX8_leastOf_45 rfl hl (by decide) rfl (fun ls hl => ?_)
            refine lv_iinc (v := (x2h19 + 1)) (lv' := [(2, .int (x2h19 + 1)), (1, .int x1h19), (0, .ref rw)]) hx hb dX8_leastOf_46 hl (k := 1) rfl rfl (by decide) rfl (fun ls hl => ?_)
            refine lv_goto (tgt := 19) hx hb dX8_leastOf_49 (by decide) ?_
            exact ih_19 (i_19 + 1) x1h19 (x2h19 + 1) (by rw [hb_19]; exact nI_1 _) (by have l_0 : (0 : Int32).toInt = 0 := (by decide); have l_1 : (1 : Int32).toInt = 1 := (by decide); have l_16 : (16 : Int32).toInt = 16 := (by decide); have l_2 : (2 : Int32).toInt = 2 := (by decide); have l_3 : (3 : Int32).toInt = 3 := (by decide); have l_4 : (4 : Int32).toInt = 4 := (by decide); have qc_2 := c_2; (try simp only [fc_le, fc_lt, fc_eq] at qc_2); have qc_5 := c_5; (try simp only [fc_le, fc_lt, fc_eq] at qc_5); skip; omega) (by have l_0 : (0 : Int32).toInt = 0 := (by decide); have l_1 : (1 : Int32).toInt = 1 := (by decide); have l_16 : (16 : Int32).toInt = 16 := (by decide); have l_2 : (2 : Int32).toInt = 2 := (by decide); have l_3 : (3 : Int32).toInt = 3 := (by decide); have l_4 : (4 : Int32).toInt = 4 := (by decide); have qc_2 := c_2; (try simp only [fc_le, fc_lt, fc_eq] at qc_2); have qc_5 := c_5; (try simp only [fc_le, fc_lt, fc_eq] at qc_5); skip; omega) (by rw [hI_19, mX8_leastOf_L19_s, mX8_leastOf_S19]; (try dsimp only); rw [if_neg c_2]; rw [hw_3]; (try dsimp only); rw [hw_4]; (try dsimp only); rw [if_pos c_5]; (first | done | rfl)) _ _ (hP.sub [0] rfl) (hD.sub [0] (by decide) rfl) hS ls (lv_sub hl [0, 1, 2] rfl)
          · refine lv_iload_n hx hb dX8_leastOf_40 rfl (lv_at hl 0 rfl) ?_
            refine lv_goto (tgt := 45) hx hb dX8_leastOf_41 (by decide) ?_
            refine lv_istore_n (lv' := [(1, .int x2h19), (2, .int x2h19), (0, .ref rw)]) hx hb dX8_leastOf_45 rfl hl (by decide) rfl (fun ls hl => ?_)
            refine lv_iinc (v := (x2h19 + 1)) (lv' := [(2, .int (x2h19 + 1)), (1, .int x2h19), (0, .ref rw)]) hx hb dX8_leastOf_46 hl (k := 1) rfl rfl (by decide) rfl (fun ls hl => ?_)
            refine lv_goto (tgt := 19) hx hb dX8_leastOf_49 (by decide) ?_
            exact ih_19 (i_19 + 1) x2h19 (x2h19 + 1) (by rw [hb_19]; exact nI_1 _) (by have l_0 : (0 : Int32).toInt = 0 := (by decide); have l_1 : (1 : Int32).toInt = 1 := (by decide); have l_16 : (16 : Int32).toInt = 16 := (by decide); have l_2 : (2 : Int32).toInt = 2 := (by decide); have l_3 : (3 : Int32).toInt = 3 := (by decide); have l_4 : (4 : Int32).toInt = 4 := (by decide); have qc_2 := c_2; (try simp only [fc_le, fc_lt, fc_eq] at qc_2); have qc_5 := c_5; (try simp only [fc_le, fc_lt, fc_eq] at qc_5); skip; omega) (by have l_0 : (0 : Int32).toInt = 0 := (by decide); have l_1 : (1 : Int32).toInt = 1 := (by decide); have l_16 : (16 : Int32).toInt = 16 := (by decide); have l_2 : (2 : Int32).toInt = 2 := (by decide); have l_3 : (3 : Int32).toInt = 3 := (by decide); have l_4 : (4 : Int32).toInt = 4 := (by decide); have qc_2 := c_2; (try simp only [fc_le, fc_lt, fc_eq] at qc_2); have qc_5 := c_5; (try simp only [fc_le, fc_lt, fc_eq] at qc_5); skip; omega) (by rw [hI_19, mX8_leastOf_L19_s, mX8_leastOf_S19]; (try dsimp only); rw [if_neg c_2]; rw [hw_3]; (try dsimp only); rw [hw_4]; (try dsimp only); rw [if_neg c_5]; (first | done | rfl)) _ _ (hP.sub [0] rfl) (hD.sub [0] (by decide) rfl) hS ls (lv_sub hl [0, 1, 2] rfl)
    exact loop_19 47 2 1 2 rfl (by omega) (by decide) (by rw [mX8_leastOf]; (try dsimp only); rw [if_pos c_1]; (first | done | rfl)) _ _ (hP.sub [0] rfl) (hD.sub [0] (by decide) rfl) hS ls (lv_sub hl [0, 1, 2] rfl)
  · refine lv_aload_n hx hb dX8_leastOf_8 rfl (lv_at hl 0 rfl) ?_
    refine lv_bipush (v := 16) hx hb dX8_leastOf_9 (by decide) ?_
    refine va_iald (D := D) hx hb hK hP 0 0 rfl rfl (vp_in_iff.mpr (by decide)) dX8_leastOf_11 ?_
    refine lv_iconst (v := 1) hx hb dX8_leastOf_12 (by decide) ?_
    refine lv_isub hx hb dX8_leastOf_13 ?_
    exact hret _ _ ((row (16 : Int32).toNatClampNeg) - 1) () _ _ (by rw [mX8_leastOf]; (try dsimp only); rw [if_neg c_1]; (first | done | rfl)) (hP.sub [0] rfl) (hD.sub [0] (by decide) rfl) hS dX8_leastOf_14
noncomputable def mX8_sweep_S6 (ih_6 : Int32 → Int32 → (Nat → Int32) → Nat → Int32) (x1h6 : Int32) (x2h6 : Int32) (rowh6 : Nat → Int32) : Nat → Int32 :=
  if (rowh6 (3 : Int32).toNatClampNeg) ≤ x2h6 then
    rowh6
  else
    if x1h6 ≤ 0 then
      rowh6
    else
      if (rowh6 ((19 + x2h6) : Int32).toNatClampNeg) = (-2) then
        let row_4 := (upd rowh6 ((19 + x2h6) : Int32).toNatClampNeg (-1))
        ih_6 (x1h6 + (-1)) (x2h6 + 1) row_4
      else
        ih_6 x1h6 (x2h6 + 1) rowh6
noncomputable def mX8_sweep_L6 (k : Nat) : Int32 → Int32 → (Nat → Int32) → Nat → Int32 := Nat.rec (motive := fun _ => Int32 → Int32 → (Nat → Int32) → Nat → Int32) (fun x1h6 x2h6 rowh6 => rowh6) (fun _ ih => mX8_sweep_S6  ih) k
theorem mX8_sweep_L6_z (x1h6 : Int32) (x2h6 : Int32) (rowh6 : Nat → Int32) : mX8_sweep_L6  0 x1h6 x2h6 rowh6 = rowh6 := rfl
theorem mX8_sweep_L6_s (k : Nat) (x1h6 : Int32) (x2h6 : Int32) (rowh6 : Nat → Int32) : mX8_sweep_L6  (k + 1) x1h6 x2h6 rowh6 = mX8_sweep_S6  (mX8_sweep_L6  k) x1h6 x2h6 rowh6 := rfl
noncomputable def mX8_sweep (row : Nat → Int32) : Nat → Int32 :=
  mX8_sweep_L6 49 (row (0 : Int32).toNatClampNeg) 0 row
abbrev rmX8_sweep : Room := { frames := 0, cells := 0, slots := 0, locals := 0 }
set_option maxHeartbeats 4000000 in
set_option maxRecDepth 100000 in
theorem c_X8_sweep (l : Launch) (D : va_G) (tc : Nat → ClassId) (rw : Nat) (row : Nat → Int32) (sz : Nat) (h3 : 8 ≤ (row (3 : Int32).toNatClampNeg).toInt ∧ (row (3 : Int32).toNatClampNeg).toInt ≤ 48) : Met l yX8_sweep wsX8_sweep rmX8_sweep (va_Pc [.ref rw] (fcB D tc [(rw, .inl (tc 0, 357, .inl row))] sz)) (va_Qv (fun (u : Nat → Int32) => mX8_sweep row = u) (fun u t => fcO D (va_A [(rw, .inl (tc 0, 357, .inl row))] sz) ((fun (u : Nat → Int32) => [(rw, .inl (tc 0, 357, .inl u))]) u) t) (va_A [(rw, .inl (tc 0, 357, .inl row))] sz)) 0 0 (va_A [(rw, .inl (tc 0, 357, .inl row))] sz) := by
  refine fc_ofWv (own := RX8) (cc := cX8_sweep) (maxL := 3) (W1 := (fun (u : Nat → Int32) => [(rw, .inl (tc 0, 357, .inl u))])) rfl (by decide) rfl (Nat.le_of_ble_eq_true rfl) ?_
  intro p e s m args below meth c A Q hx hb hml hown hts hK hE hP hD hS hA hin hret ls hl
  have hl : lv_has ls 3 [(0, .ref rw)] := hl
  refine lv_aload_n hx hb dX8_sweep_0 rfl (lv_at hl 0 rfl) ?_
  refine lv_iconst (v := 0) hx hb dX8_sweep_1 (by decide) ?_
  refine va_iald (D := D) hx hb hK hP 0 0 rfl rfl (vp_in_iff.mpr (by decide)) dX8_sweep_2 ?_
  refine lv_istore_n (lv' := [(1, .int (row (0 : Int32).toNatClampNeg)), (0, .ref rw)]) hx hb dX8_sweep_3 rfl hl (by decide) rfl (fun ls hl => ?_)
  refine lv_iconst (v := 0) hx hb dX8_sweep_4 (by decide) ?_
  refine lv_istore_n (lv' := [(2, .int 0), (1, .int (row (0 : Int32).toNatClampNeg)), (0, .ref rw)]) hx hb dX8_sweep_5 rfl hl (by decide) rfl (fun ls hl => ?_)
  have loop_6 : ∀ (k_6 : Nat) (i_6 : Nat) (x1h6 : Int32) (x2h6 : Int32) (rowh6 : Nat → Int32) (hb_6 : x2h6 = nI i_6) (hm_6 : i_6 ≤ 48 ∧ 48 < i_6 + k_6) (w3_6 : (rowh6 (3 : Int32).toNatClampNeg).toInt = (row (3 : Int32).toNatClampNeg).toInt) (hI_6 : mX8_sweep row = mX8_sweep_L6 k_6 x1h6 x2h6 rowh6) (H : Heap) (locs : List Loc), va_P D vwCl [(rw, .inl (tc 0, 357, .inl rowh6))] H → va_D A [(rw, .inl (tc 0, 357, .inl rowh6))] → va_S A s.heap H locs → ∀ ls : Array Slot, lv_has ls 3 [(2, .int x2h6), (1, .int x1h6), (0, .ref rw)] → W p l e rmX8_sweep s m args below meth c H locs 0 0 Q (F0 m 6 ls []) := by
    intro k_6
    induction k_6 with
    | zero =>
      intro i_6 x1h6 x2h6 rowh6 hb_6 hm_6 w3_6 hI_6 H locs hP hD hS ls hl
      exact absurd hm_6 (by omega)
    | succ k_6 ih_6 =>
      intro i_6 x1h6 x2h6 rowh6 hb_6 hm_6 w3_6 hI_6 H locs hP hD hS ls hl
      have zz_6 := fc_nI (n := i_6) (by omega)
      rw [← hb_6] at zz_6
      refine lv_iload_n hx hb dX8_sweep_6 rfl (lv_at hl 0 rfl) ?_
      refine lv_aload_n hx hb dX8_sweep_7 rfl (lv_at hl 2 rfl) ?_
      refine lv_iconst (v := 3) hx hb dX8_sweep_8 (by decide) ?_
      refine va_iald (D := D) hx hb hK hP 0 0 rfl rfl (vp_in_iff.mpr (by decide)) dX8_sweep_9 ?_
      refine lv_icmp_ge (tgt := 44) hx hb dX8_sweep_10 (by decide) (fun c_1 => ?_) (fun c_1 => ?_)
      · exact hret _ _ rowh6 _ _ (by rw [hI_6, mX8_sweep_L6_s, mX8_sweep_S6]; (try dsimp only); rw [if_pos c_1]; (first | done | rfl)) (hP.sub [0] rfl) (hD.sub [0] (by decide) rfl) hS dX8_sweep_44
      · refine lv_iload_n hx hb dX8_sweep_13 rfl (lv_at hl 1 rfl) ?_
        refine lv_if_le (tgt := 44) hx hb dX8_sweep_14 (by decide) (fun c_2 => ?_) (fun c_2 => ?_)
        · exact hret _ _ rowh6 _ _ (by rw [hI_6, mX8_sweep_L6_s, mX8_sweep_S6]; (try dsimp only); rw [if_neg c_1]; rw [if_pos c_2]; (first | done | rfl)) (hP.sub [0] rfl) (hD.sub [0] (by decide) rfl) hS dX8_sweep_44
        · refine lv_aload_n hx hb dX8_sweep_17 rfl (lv_at hl 2 rfl) ?_
          refine lv_bipush (v := 19) hx hb dX8_sweep_18 (by decide) ?_
          refine lv_iload_n hx hb dX8_sweep_20 rfl (lv_at hl 0 rfl) ?_
          refine lv_iadd hx hb dX8_sweep_21 ?_
          refine va_iald (D := D) hx hb hK hP 0 0 rfl rfl (by have l_0 : (0 : Int32).toInt = 0 := (by decide); have l_1 : (1 : Int32).toInt = 1 := (by decide); have l_19 : (19 : Int32).toInt = 19 := (by decide); have l_2 : (2 : Int32).toInt = 2 := (by decide); have l_3 : (3 : Int32).toInt = 3 := (by decide); have l_4 : (4 : Int32).toInt = 4 := (by decide); have qc_1 := c_1; (try simp only [fc_le, fc_lt, fc_eq] at qc_1); have qc_2 := c_2; (try simp only [fc_le, fc_lt, fc_eq] at qc_2); have a_1 := fc_kadd (x := x2h6) (k := 19) (n := 19) (by decide) (by omega) (by omega); rw [vp_in_iff]; omega) dX8_sweep_22 ?_
          refine lv_bipush (v := (-2)) hx hb dX8_sweep_23 (by decide) ?_
          refine lv_icmp_ne (tgt := 38) hx hb dX8_sweep_25 (by decide) (fun c_3 => ?_) (fun c_3 => ?_)
          · refine lv_iinc (v := (x2h6 + 1)) (lv' := [(2, .int (x2h6 + 1)), (1, .int x1h6), (0, .ref rw)]) hx hb dX8_sweep_38 hl (k := 0) rfl rfl (by decide) rfl (fun ls hl => ?_)
            refine lv_goto (tgt := 6) hx hb dX8_sweep_41 (by decide) ?_
            exact ih_6 (i_6 + 1) x1h6 (x2h6 + 1) rowh6 (by rw [hb_6]; exact nI_1 _) (by have l_mm2m : ((-2) : Int32).toInt = (-2) := (by decide); have l_0 : (0 : Int32).toInt = 0 := (by decide); have l_1 : (1 : Int32).toInt = 1 := (by decide); have l_19 : (19 : Int32).toInt = 19 := (by decide); have l_2 : (2 : Int32).toInt = 2 := (by decide); have l_3 : (3 : Int32).toInt = 3 := (by decide); have l_4 : (4 : Int32).toInt = 4 := (by decide); have qc_1 := c_1; (try simp only [fc_le, fc_lt, fc_eq] at qc_1); have qc_2 := c_2; (try simp only [fc_le, fc_lt, fc_eq] at qc_2); have qc_3 := c_3; (try simp only [fc_le, fc_lt, fc_eq] at qc_3); skip; omega) (by omega) (by rw [hI_6, mX8_sweep_L6_s, mX8_sweep_S6]; (try dsimp only); rw [if_neg c_1]; rw [if_neg c_2]; rw [if_neg c_3]; (first | done | rfl)) _ _ (hP.sub [0] rfl) (hD.sub [0] (by decide) rfl) hS ls (lv_sub hl [0, 1, 2] rfl)
          · refine lv_aload_n hx hb dX8_sweep_28 rfl (lv_at hl 2 rfl) ?_
            refine lv_bipush (v := 19) hx hb dX8_sweep_29 (by decide) ?_
            refine lv_iload_n hx hb dX8_sweep_31 rfl (lv_at hl 0 rfl) ?_
            refine lv_iadd hx hb dX8_sweep_32 ?_
            refine lv_iconst (v := (-1)) hx hb dX8_sweep_33 (by decide) ?_
            refine va_iast (D := D) hx hb hK hP hD hS 0 0 rfl rfl (by have l_mm2m : ((-2) : Int32).toInt = (-2) := (by decide); have l_0 : (0 : Int32).toInt = 0 := (by decide); have l_1 : (1 : Int32).toInt = 1 := (by decide); have l_19 : (19 : Int32).toInt = 19 := (by decide); have l_2 : (2 : Int32).toInt = 2 := (by decide); have l_3 : (3 : Int32).toInt = 3 := (by decide); have l_4 : (4 : Int32).toInt = 4 := (by decide); have qc_1 := c_1; (try simp only [fc_le, fc_lt, fc_eq] at qc_1); have qc_2 := c_2; (try simp only [fc_le, fc_lt, fc_eq] at qc_2); have qc_3 := c_3; (try simp only [fc_le, fc_lt, fc_eq] at qc_3); have a_1 := fc_kadd (x := x2h6) (k := 19) (n := 19) (by decide) (by omega) (by omega); rw [vp_in_iff]; omega) dX8_sweep_34 (fun H locs hP hD hS => ?_)
            have hP : va_P D vwCl [(rw, .inl (tc 0, 357, .inl (upd rowh6 ((19 + x2h6) : Int32).toNatClampNeg (-1))))] H := hP
            have hD : va_D A [(rw, .inl (tc 0, 357, .inl (upd rowh6 ((19 + x2h6) : Int32).toNatClampNeg (-1))))] := hD
            obtain ⟨row_4, hw_4⟩ : ∃ z, (upd rowh6 ((19 + x2h6) : Int32).toNatClampNeg (-1)) = z := ⟨_, rfl⟩
            rw [hw_4] at hP hD
            have hv3_4 : (row_4 (3 : Int32).toNatClampNeg).toInt = (rowh6 (3 : Int32).toNatClampNeg).toInt := by rw [← hw_4, pk_un (by have l_mm2m : ((-2) : Int32).toInt = (-2) := (by decide); have l_0 : (0 : Int32).toInt = 0 := (by decide); have l_1 : (1 : Int32).toInt = 1 := (by decide); have l_19 : (19 : Int32).toInt = 19 := (by decide); have l_2 : (2 : Int32).toInt = 2 := (by decide); have l_3 : (3 : Int32).toInt = 3 := (by decide); have l_4 : (4 : Int32).toInt = 4 := (by decide); have qc_1 := c_1; (try simp only [fc_le, fc_lt, fc_eq] at qc_1); have qc_2 := c_2; (try simp only [fc_le, fc_lt, fc_eq] at qc_2); have qc_3 := c_3; (try simp only [fc_le, fc_lt, fc_eq] at qc_3); have a_1 := fc_kadd (x := x2h6) (k := 19) (n := 19) (by decide) (by omega) (by omega); simp only [fc_cl]; omega)]
            refine lv_iinc (v := (x1h6 + (-1))) (lv' := [(1, .int (x1h6 + (-1))), (2, .int x2h6), (0, .ref rw)]) hx hb dX8_sweep_35 hl (k := 1) rfl rfl (by decide) rfl (fun ls hl => ?_)
            refine lv_iinc (v := (x2h6 + 1)) (lv' := [(2, .int (x2h6 + 1)), (1, .int (x1h6 + (-1))), (0, .ref rw)]) hx hb dX8_sweep_38 hl (k := 1) rfl rfl (by decide) rfl (fun ls hl => ?_)
            refine lv_goto (tgt := 6) hx hb dX8_sweep_41 (by decide) ?_
            exact ih_6 (i_6 + 1) (x1h6 + (-1)) (x2h6 + 1) row_4 (by rw [hb_6]; exact nI_1 _) (by have l_mm2m : ((-2) : Int32).toInt = (-2) := (by decide); have l_0 : (0 : Int32).toInt = 0 := (by decide); have l_1 : (1 : Int32).toInt = 1 := (by decide); have l_19 : (19 : Int32).toInt = 19 := (by decide); have l_2 : (2 : Int32).toInt = 2 := (by decide); have l_3 : (3 : Int32).toInt = 3 := (by decide); have l_4 : (4 : Int32).toInt = 4 := (by decide); have qc_1 := c_1; (try simp only [fc_le, fc_lt, fc_eq] at qc_1); have qc_2 := c_2; (try simp only [fc_le, fc_lt, fc_eq] at qc_2); have qc_3 := c_3; (try simp only [fc_le, fc_lt, fc_eq] at qc_3); skip; omega) (by omega) (by rw [hI_6, mX8_sweep_L6_s, mX8_sweep_S6]; (try dsimp only); rw [if_neg c_1]; rw [if_neg c_2]; rw [if_pos c_3]; rw [hw_4]; (try dsimp only); (first | done | rfl)) _ _ (hP.sub [0] rfl) (hD.sub [0] (by decide) rfl) hS ls (lv_sub hl [0, 1, 2] rfl)
  exact loop_6 49 0 (row (0 : Int32).toNatClampNeg) 0 row nI_0.symm (by omega) rfl (by rw [mX8_sweep]; (first | done | rfl)) _ _ (hP.sub [0] rfl) (hD.sub [0] (by decide) rfl) hS ls (lv_sub hl [0, 1, 2] rfl)
theorem hd_X8_count : yX8_count.cls = RX8 ∧ yX8_count.cls ≠ "java/lang/invoke/MethodHandle" ∧ yX8_count.cls ≠ "java/lang/invoke/VarHandle" ∧ (parseMethodDescriptor yX8_count.desc).map (fun d => d.parameters.length) = some 2 := by decide +kernel
theorem hd_X8_countn : yX8_count.cls ≠ "java/lang/invoke/MethodHandle" ∧ yX8_count.cls ≠ "java/lang/invoke/VarHandle" ∧ (parseMethodDescriptor yX8_count.desc).map (fun d => d.parameters.length) = some 2 := by decide +kernel
theorem hd_X8_waitAt : yX8_waitAt.cls = RX8 ∧ yX8_waitAt.cls ≠ "java/lang/invoke/MethodHandle" ∧ yX8_waitAt.cls ≠ "java/lang/invoke/VarHandle" ∧ (parseMethodDescriptor yX8_waitAt.desc).map (fun d => d.parameters.length) = some 2 := by decide +kernel
theorem hd_X8_waitAtn : yX8_waitAt.cls ≠ "java/lang/invoke/MethodHandle" ∧ yX8_waitAt.cls ≠ "java/lang/invoke/VarHandle" ∧ (parseMethodDescriptor yX8_waitAt.desc).map (fun d => d.parameters.length) = some 2 := by decide +kernel
noncomputable def mX8_lacks (row : Nat → Int32) : Int32 :=
  if (row (17 : Int32).toNatClampNeg) ≤ 0 then
    0
  else
    let r_2 := mX8_count row (-1)
    let r_3 := mX8_count row (-2)
    let r_4 := mX8_waitAt 0 2
    if (row r_4.toNatClampNeg) ≤ (r_2 + r_3) then
      0
    else
      1
abbrev rmX8_lacks : Room := { frames := 1, cells := 0, slots := 0, locals := 23 }
set_option maxHeartbeats 4000000 in
set_option maxRecDepth 100000 in
theorem c_X8_lacks (l : Launch) (D : va_G) (tc : Nat → ClassId) (rw : Nat) (row : Nat → Int32) (sz : Nat) (h3 : 8 ≤ (row (3 : Int32).toNatClampNeg).toInt ∧ (row (3 : Int32).toNatClampNeg).toInt ≤ 48) : Met l yX8_lacks wsX8_lacks rmX8_lacks (va_Pc [.ref rw] (fcB D tc [(rw, .inl (tc 0, 357, .inl row))] sz)) (va_Qi (fun (r : Int32) (_ : Unit) => mX8_lacks row = r) (fun u t => fcO D (va_A [(rw, .inl (tc 0, 357, .inl row))] sz) ((fun (_ : Unit) => [(rw, .inl (tc 0, 357, .inl row))]) u) t) (va_A [(rw, .inl (tc 0, 357, .inl row))] sz)) 0 0 (va_A [(rw, .inl (tc 0, 357, .inl row))] sz) := by
  refine fc_ofWz (own := RX8) (cc := cX8_lacks) (maxL := 1) (W1 := (fun (_ : Unit) => [(rw, .inl (tc 0, 357, .inl row))])) rfl (by decide) rfl (Nat.le_of_ble_eq_true rfl) ?_
  intro p e s m args below meth c A Q hx hb hml hown hts hK hE hP hD hS hA hin hret ls hl
  have hl : lv_has ls 1 [(0, .ref rw)] := hl
  refine lv_aload_n hx hb dX8_lacks_0 rfl (lv_at hl 0 rfl) ?_
  refine lv_bipush (v := 17) hx hb dX8_lacks_1 (by decide) ?_
  refine va_iald (D := D) hx hb hK hP 0 0 rfl rfl (vp_in_iff.mpr (by decide)) dX8_lacks_3 ?_
  refine lv_if_le (tgt := 33) hx hb dX8_lacks_4 (by decide) (fun c_1 => ?_) (fun c_1 => ?_)
  · refine lv_iconst (v := 0) hx hb dX8_lacks_33 (by decide) ?_
    exact hret _ _ (0) () _ _ (Or.inl rfl) (by rw [mX8_lacks]; (try dsimp only); rw [if_pos c_1]; (first | done | rfl)) (hP.sub [0] rfl) (hD.sub [0] (by decide) rfl) hS dX8_lacks_34
  · refine lv_aload_n hx hb dX8_lacks_7 rfl (lv_at hl 0 rfl) ?_
    refine lv_iconst (v := (-1)) hx hb dX8_lacks_8 (by decide) ?_
    refine fc_goi (isC := [0]) (isR := []) (wc := [(rw, .inl (tc 0, 357, .inl row))]) (wr := []) hP hD hS hA rfl rfl (by decide) (by decide) (fc_runS (isC := [0]) (As := [.ref rw, .int (-1)]) (rest := []) hx hb hml hown hts hK hE hP hD hS hA rfl (by decide) (c_X8_count l D tc rw row (-1) _ (by have l_mm1m : ((-1) : Int32).toInt = (-1) := (by decide); have l_0 : (0 : Int32).toInt = 0 := (by decide); have l_1 : (1 : Int32).toInt = 1 := (by decide); have l_17 : (17 : Int32).toInt = 17 := (by decide); have l_2 : (2 : Int32).toInt = 2 := (by decide); have l_3 : (3 : Int32).toInt = 3 := (by decide); have l_4 : (4 : Int32).toInt = 4 := (by decide); have qc_1 := c_1; (try simp only [fc_le, fc_lt, fc_eq] at qc_1); (try simp only [fc_le, fc_lt, fc_eq]); omega)) (cwS 2 hts gX8_lacks_X8_count rfl rfl rfl hd_X8_count ⟨Nat.le_of_ble_eq_true rfl, Nat.le_of_ble_eq_true rfl⟩) rfl hl.1 rfl (Nat.le_of_ble_eq_true rfl) dX8_lacks_9 ⟨Nat.le_of_ble_eq_true rfl, Nat.le_of_ble_eq_true rfl⟩) (fun r_2 u_2 H locs hw_2 hP hD hS => ?_)
    try dsimp only at hw_2
    have hP : va_P D vwCl [(rw, .inl (tc 0, 357, .inl row))] H := hP
    have hD : va_D A [(rw, .inl (tc 0, 357, .inl row))] := hD
    refine lv_aload_n hx hb dX8_lacks_12 rfl (lv_at hl 0 rfl) ?_
    refine lv_bipush (v := (-2)) hx hb dX8_lacks_13 (by decide) ?_
    refine fc_goi (isC := [0]) (isR := []) (wc := [(rw, .inl (tc 0, 357, .inl row))]) (wr := []) hP hD hS hA rfl rfl (by decide) (by decide) (fc_runS (isC := [0]) (As := [.ref rw, .int (-2)]) (rest := [.int r_2]) hx hb hml hown hts hK hE hP hD hS hA rfl (by decide) (c_X8_count l D tc rw row (-2) _ (by have l_mm2m : ((-2) : Int32).toInt = (-2) := (by decide); have l_0 : (0 : Int32).toInt = 0 := (by decide); have l_1 : (1 : Int32).toInt = 1 := (by decide); have l_17 : (17 : Int32).toInt = 17 := (by decide); have l_2 : (2 : Int32).toInt = 2 := (by decide); have l_3 : (3 : Int32).toInt = 3 := (by decide); have l_4 : (4 : Int32).toInt = 4 := (by decide); have qc_1 := c_1; (try simp only [fc_le, fc_lt, fc_eq] at qc_1); (try simp only [fc_le, fc_lt, fc_eq]); omega)) (cwS 2 hts gX8_lacks_X8_count rfl rfl rfl hd_X8_count ⟨Nat.le_of_ble_eq_true rfl, Nat.le_of_ble_eq_true rfl⟩) rfl hl.1 rfl (Nat.le_of_ble_eq_true rfl) dX8_lacks_15 ⟨Nat.le_of_ble_eq_true rfl, Nat.le_of_ble_eq_true rfl⟩) (fun r_3 u_3 H locs hw_3 hP hD hS => ?_)
    try dsimp only at hw_3
    have hP : va_P D vwCl [(rw, .inl (tc 0, 357, .inl row))] H := hP
    have hD : va_D A [(rw, .inl (tc 0, 357, .inl row))] := hD
    refine lv_iadd hx hb dX8_lacks_18 ?_
    refine lv_aload_n hx hb dX8_lacks_19 rfl (lv_at hl 0 rfl) ?_
    refine lv_iconst (v := 0) hx hb dX8_lacks_20 (by decide) ?_
    refine lv_iconst (v := 2) hx hb dX8_lacks_21 (by decide) ?_
    refine fc_goi (isC := []) (isR := [0]) (wc := []) (wr := [(rw, .inl (tc 0, 357, .inl row))]) hP hD hS hA rfl rfl (by decide) (by decide) (fc_runS (isC := []) (As := [.int 0, .int 2]) (rest := [.ref rw, .int (r_2 + r_3)]) hx hb hml hown hts hK hE hP hD hS hA rfl (by decide) (c_X8_waitAt l D tc 0 2 _ ) (cwS 2 hts gX8_lacks_X8_waitAt rfl rfl rfl hd_X8_waitAt ⟨Nat.le_of_ble_eq_true rfl, Nat.le_of_ble_eq_true rfl⟩) rfl hl.1 rfl (Nat.le_of_ble_eq_true rfl) dX8_lacks_22 ⟨Nat.le_of_ble_eq_true rfl, Nat.le_of_ble_eq_true rfl⟩) (fun r_4 u_4 H locs hw_4 hP hD hS => ?_)
    try dsimp only at hw_4
    have hP : va_P D vwCl [(rw, .inl (tc 0, 357, .inl row))] H := hP
    have hD : va_D A [(rw, .inl (tc 0, 357, .inl row))] := hD
    have hf_4 := fx_waitAt hw_4 (by decide) (by decide)
    refine va_iald (D := D) hx hb hK hP 0 0 rfl rfl (by have l_0 : (0 : Int32).toInt = 0 := (by decide); have l_1 : (1 : Int32).toInt = 1 := (by decide); have l_17 : (17 : Int32).toInt = 17 := (by decide); have l_2 : (2 : Int32).toInt = 2 := (by decide); have l_3 : (3 : Int32).toInt = 3 := (by decide); have l_4 : (4 : Int32).toInt = 4 := (by decide); have qc_1 := c_1; (try simp only [fc_le, fc_lt, fc_eq] at qc_1); rw [vp_in_iff]; omega) dX8_lacks_25 ?_
    refine lv_icmp_ge (tgt := 33) hx hb dX8_lacks_26 (by decide) (fun c_5 => ?_) (fun c_5 => ?_)
    · refine lv_iconst (v := 0) hx hb dX8_lacks_33 (by decide) ?_
      exact hret _ _ (0) () _ _ (Or.inl rfl) (by rw [mX8_lacks]; (try dsimp only); rw [if_neg c_1]; rw [hw_2]; (try dsimp only); rw [hw_3]; (try dsimp only); rw [hw_4]; (try dsimp only); rw [if_pos c_5]; (first | done | rfl)) (hP.sub [0] rfl) (hD.sub [0] (by decide) rfl) hS dX8_lacks_34
    · refine lv_iconst (v := 1) hx hb dX8_lacks_29 (by decide) ?_
      refine lv_goto (tgt := 34) hx hb dX8_lacks_30 (by decide) ?_
      exact hret _ _ (1) () _ _ (Or.inr rfl) (by rw [mX8_lacks]; (try dsimp only); rw [if_neg c_1]; rw [hw_2]; (try dsimp only); rw [hw_3]; (try dsimp only); rw [hw_4]; (try dsimp only); rw [if_neg c_5]; (first | done | rfl)) (hP.sub [0] rfl) (hD.sub [0] (by decide) rfl) hS dX8_lacks_34
theorem hd_X8_sizeOf : yX8_sizeOf.cls = RX8 ∧ yX8_sizeOf.cls ≠ "java/lang/invoke/MethodHandle" ∧ yX8_sizeOf.cls ≠ "java/lang/invoke/VarHandle" ∧ (parseMethodDescriptor yX8_sizeOf.desc).map (fun d => d.parameters.length) = some 1 := by decide +kernel
theorem hd_X8_sizeOfn : yX8_sizeOf.cls ≠ "java/lang/invoke/MethodHandle" ∧ yX8_sizeOf.cls ≠ "java/lang/invoke/VarHandle" ∧ (parseMethodDescriptor yX8_sizeOf.desc).map (fun d => d.parameters.length) = some 1 := by decide +kernel
noncomputable def mX8_shootIn (row : Nat → Int32) (p1 : Int32) : Int32 × (Nat → Int32) :=
  if (row (15 : Int32).toNatClampNeg) = (-1) then
    let row_19 := (upd row (5 : Int32).toNatClampNeg ((row (5 : Int32).toNatClampNeg) + 1))
    let row_20 := (upd row_19 (13 : Int32).toNatClampNeg ((row_19 (13 : Int32).toNatClampNeg) + 1))
    let row_21 := (upd row_20 (15 : Int32).toNatClampNeg p1)
    if (row_21 (17 : Int32).toNatClampNeg) = 4 then
      let row_32 := (upd row_21 (7 : Int32).toNatClampNeg ((row_21 (7 : Int32).toNatClampNeg) + 1))
      let row_33 := (upd row_32 (14 : Int32).toNatClampNeg ((row_32 (14 : Int32).toNatClampNeg) + 1))
      ((-1), row_33)
    else
      let r_23 := mX8_waitAt (row_21 (17 : Int32).toNatClampNeg) 0
      let row_24 := (upd row_21 r_23.toNatClampNeg (row (5 : Int32).toNatClampNeg))
      let r_25 := mX8_waitAt (row_21 (17 : Int32).toNatClampNeg) 1
      let row_26 := (upd row_24 r_25.toNatClampNeg p1)
      let r_27 := mX8_waitAt (row_21 (17 : Int32).toNatClampNeg) 2
      let row_28 := (upd row_26 r_27.toNatClampNeg 7)
      let r_29 := mX8_waitAt (row_21 (17 : Int32).toNatClampNeg) 3
      let row_30 := (upd row_28 r_29.toNatClampNeg (row_28 (4 : Int32).toNatClampNeg))
      let row_31 := (upd row_30 (17 : Int32).toNatClampNeg ((row_30 (17 : Int32).toNatClampNeg) + 1))
      ((row (5 : Int32).toNatClampNeg), row_31)
  else
    let r_2 := mX8_difference p1 (row (15 : Int32).toNatClampNeg)
    let r_3 := mX8_sizeOf r_2
    let row_4 := (upd row (5 : Int32).toNatClampNeg ((row (5 : Int32).toNatClampNeg) + 1))
    let row_5 := (upd row_4 (13 : Int32).toNatClampNeg ((row_4 (13 : Int32).toNatClampNeg) + 1))
    let row_6 := (upd row_5 (15 : Int32).toNatClampNeg p1)
    if (row_6 (17 : Int32).toNatClampNeg) = 4 then
      let row_17 := (upd row_6 (7 : Int32).toNatClampNeg ((row_6 (7 : Int32).toNatClampNeg) + 1))
      let row_18 := (upd row_17 (14 : Int32).toNatClampNeg ((row_17 (14 : Int32).toNatClampNeg) + 1))
      ((-1), row_18)
    else
      let r_8 := mX8_waitAt (row_6 (17 : Int32).toNatClampNeg) 0
      let row_9 := (upd row_6 r_8.toNatClampNeg (row (5 : Int32).toNatClampNeg))
      let r_10 := mX8_waitAt (row_6 (17 : Int32).toNatClampNeg) 1
      let row_11 := (upd row_9 r_10.toNatClampNeg p1)
      let r_12 := mX8_waitAt (row_6 (17 : Int32).toNatClampNeg) 2
      let row_13 := (upd row_11 r_12.toNatClampNeg r_3)
      let r_14 := mX8_waitAt (row_6 (17 : Int32).toNatClampNeg) 3
      let row_15 := (upd row_13 r_14.toNatClampNeg (row_13 (4 : Int32).toNatClampNeg))
      let row_16 := (upd row_15 (17 : Int32).toNatClampNeg ((row_15 (17 : Int32).toNatClampNeg) + 1))
      ((row (5 : Int32).toNatClampNeg), row_16)
abbrev rmX8_shootIn : Room := { frames := 1, cells := 0, slots := 0, locals := 26 }
set_option maxHeartbeats 4000000 in
set_option maxRecDepth 100000 in
theorem c_X8_shootIn (l : Launch) (D : va_G) (tc : Nat → ClassId) (rw : Nat) (row : Nat → Int32) (p1 : Int32) (sz : Nat) (h17 : 0 ≤ (row (17 : Int32).toNatClampNeg).toInt ∧ (row (17 : Int32).toNatClampNeg).toInt ≤ 4) : Met l yX8_shootIn wsX8_shootIn rmX8_shootIn (va_Pc [.ref rw, .int p1] (fcB D tc [(rw, .inl (tc 0, 357, .inl row))] sz)) (va_Qi (fun (r : Int32) (u : Nat → Int32) => mX8_shootIn row p1 = (r, u)) (fun u t => fcO D (va_A [(rw, .inl (tc 0, 357, .inl row))] sz) ((fun (u : Nat → Int32) => [(rw, .inl (tc 0, 357, .inl u))]) u) t) (va_A [(rw, .inl (tc 0, 357, .inl row))] sz)) 0 0 (va_A [(rw, .inl (tc 0, 357, .inl row))] sz) := by
  refine fc_ofWi (own := RX8) (cc := cX8_shootIn) (maxL := 5) (W1 := (fun (u : Nat → Int32) => [(rw, .inl (tc 0, 357, .inl u))])) rfl (by decide) rfl (Nat.le_of_ble_eq_true rfl) ?_
  intro p e s m args below meth c A Q hx hb hml hown hts hK hE hP hD hS hA hin hret ls hl
  have hl : lv_has ls 5 [(0, .ref rw), (1, .int p1)] := hl
  refine lv_aload_n hx hb dX8_shootIn_0 rfl (lv_at hl 0 rfl) ?_
  refine lv_iconst (v := 5) hx hb dX8_shootIn_1 (by decide) ?_
  refine va_iald (D := D) hx hb hK hP 0 0 rfl rfl (vp_in_iff.mpr (by decide)) dX8_shootIn_2 ?_
  refine lv_istore_n (lv' := [(2, .int (row (5 : Int32).toNatClampNeg)), (0, .ref rw), (1, .int p1)]) hx hb dX8_shootIn_3 rfl hl (by decide) rfl (fun ls hl => ?_)
  refine lv_aload_n hx hb dX8_shootIn_4 rfl (lv_at hl 1 rfl) ?_
  refine lv_bipush (v := 15) hx hb dX8_shootIn_5 (by decide) ?_
  refine va_iald (D := D) hx hb hK hP 0 0 rfl rfl (vp_in_iff.mpr (by decide)) dX8_shootIn_7 ?_
  refine lv_iconst (v := (-1)) hx hb dX8_shootIn_8 (by decide) ?_
  refine lv_icmp_ne (tgt := 17) hx hb dX8_shootIn_9 (by decide) (fun c_1 => ?_) (fun c_1 => ?_)
  · refine lv_iload_n hx hb dX8_shootIn_17 rfl (lv_at hl 2 rfl) ?_
    refine lv_aload_n hx hb dX8_shootIn_18 rfl (lv_at hl 1 rfl) ?_
    refine lv_bipush (v := 15) hx hb dX8_shootIn_19 (by decide) ?_
    refine va_iald (D := D) hx hb hK hP 0 0 rfl rfl (vp_in_iff.mpr (by decide)) dX8_shootIn_21 ?_
    refine fc_goi (isC := []) (isR := [0]) (wc := []) (wr := [(rw, .inl (tc 0, 357, .inl row))]) hP hD hS hA rfl rfl (by decide) (by decide) (fc_runS (isC := []) (As := [.int p1, .int (row (15 : Int32).toNatClampNeg)]) (rest := []) hx hb hml hown hts hK hE hP hD hS hA rfl (by decide) (c_X8_difference l D tc p1 (row (15 : Int32).toNatClampNeg) _ ) (cwS 2 hts gX8_shootIn_X8_difference rfl rfl rfl hd_X8_difference ⟨Nat.le_of_ble_eq_true rfl, Nat.le_of_ble_eq_true rfl⟩) rfl hl.1 rfl (Nat.le_of_ble_eq_true rfl) dX8_shootIn_22 ⟨Nat.le_of_ble_eq_true rfl, Nat.le_of_ble_eq_true rfl⟩) (fun r_2 u_2 H locs hw_2 hP hD hS => ?_)
    try dsimp only at hw_2
    have hP : va_P D vwCl [(rw, .inl (tc 0, 357, .inl row))] H := hP
    have hD : va_D A [(rw, .inl (tc 0, 357, .inl row))] := hD
    refine fc_goi (isC := []) (isR := [0]) (wc := []) (wr := [(rw, .inl (tc 0, 357, .inl row))]) hP hD hS hA rfl rfl (by decide) (by decide) (fc_runS (isC := []) (As := [.int r_2]) (rest := []) hx hb hml hown hts hK hE hP hD hS hA rfl (by decide) (c_X8_sizeOf l D tc r_2 _ ) (cwS 1 hts gX8_shootIn_X8_sizeOf rfl rfl rfl hd_X8_sizeOf ⟨Nat.le_of_ble_eq_true rfl, Nat.le_of_ble_eq_true rfl⟩) rfl hl.1 rfl (Nat.le_of_ble_eq_true rfl) dX8_shootIn_25 ⟨Nat.le_of_ble_eq_true rfl, Nat.le_of_ble_eq_true rfl⟩) (fun r_3 u_3 H locs hw_3 hP hD hS => ?_)
    try dsimp only at hw_3
    have hP : va_P D vwCl [(rw, .inl (tc 0, 357, .inl row))] H := hP
    have hD : va_D A [(rw, .inl (tc 0, 357, .inl row))] := hD
    refine lv_istore_n (lv' := [(3, .int r_3), (2, .int (row (5 : Int32).toNatClampNeg)), (0, .ref rw), (1, .int p1)]) hx hb dX8_shootIn_28 rfl hl (by decide) rfl (fun ls hl => ?_)
    refine lv_aload_n hx hb dX8_shootIn_29 rfl (lv_at hl 2 rfl) ?_
    refine lv_iconst (v := 5) hx hb dX8_shootIn_30 (by decide) ?_
    refine lv_dup2_11 hx hb dX8_shootIn_31 rfl rfl ?_
    refine va_iald (D := D) hx hb hK hP 0 0 rfl rfl (vp_in_iff.mpr (by decide)) dX8_shootIn_32 ?_
    refine lv_iconst (v := 1) hx hb dX8_shootIn_33 (by decide) ?_
    refine lv_iadd hx hb dX8_shootIn_34 ?_
    refine va_iast (D := D) hx hb hK hP hD hS 0 0 rfl rfl (vp_in_iff.mpr (by decide)) dX8_shootIn_35 (fun H locs hP hD hS => ?_)
    have hP : va_P D vwCl [(rw, .inl (tc 0, 357, .inl (upd row (5 : Int32).toNatClampNeg ((row (5 : Int32).toNatClampNeg) + 1))))] H := hP
    have hD : va_D A [(rw, .inl (tc 0, 357, .inl (upd row (5 : Int32).toNatClampNeg ((row (5 : Int32).toNatClampNeg) + 1))))] := hD
    obtain ⟨row_4, hw_4⟩ : ∃ z, (upd row (5 : Int32).toNatClampNeg ((row (5 : Int32).toNatClampNeg) + 1)) = z := ⟨_, rfl⟩
    rw [hw_4] at hP hD
    have hv17_4 : (row_4 (17 : Int32).toNatClampNeg).toInt = (row (17 : Int32).toNatClampNeg).toInt := by rw [← hw_4, pk_un (by decide)]
    refine lv_aload_n hx hb dX8_shootIn_36 rfl (lv_at hl 2 rfl) ?_
    refine lv_bipush (v := 13) hx hb dX8_shootIn_37 (by decide) ?_
    refine lv_dup2_11 hx hb dX8_shootIn_39 rfl rfl ?_
    refine va_iald (D := D) hx hb hK hP 0 0 rfl rfl (vp_in_iff.mpr (by decide)) dX8_shootIn_40 ?_
    refine lv_iconst (v := 1) hx hb dX8_shootIn_41 (by decide) ?_
    refine lv_iadd hx hb dX8_shootIn_42 ?_
    refine va_iast (D := D) hx hb hK hP hD hS 0 0 rfl rfl (vp_in_iff.mpr (by decide)) dX8_shootIn_43 (fun H locs hP hD hS => ?_)
    have hP : va_P D vwCl [(rw, .inl (tc 0, 357, .inl (upd row_4 (13 : Int32).toNatClampNeg ((row_4 (13 : Int32).toNatClampNeg) + 1))))] H := hP
    have hD : va_D A [(rw, .inl (tc 0, 357, .inl (upd row_4 (13 : Int32).toNatClampNeg ((row_4 (13 : Int32).toNatClampNeg) + 1))))] := hD
    obtain ⟨row_5, hw_5⟩ : ∃ z, (upd row_4 (13 : Int32).toNatClampNeg ((row_4 (13 : Int32).toNatClampNeg) + 1)) = z := ⟨_, rfl⟩
    rw [hw_5] at hP hD
    have hv17_5 : (row_5 (17 : Int32).toNatClampNeg).toInt = (row_4 (17 : Int32).toNatClampNeg).toInt := by rw [← hw_5, pk_un (by decide)]
    refine lv_aload_n hx hb dX8_shootIn_44 rfl (lv_at hl 2 rfl) ?_
    refine lv_bipush (v := 15) hx hb dX8_shootIn_45 (by decide) ?_
    refine lv_iload_n hx hb dX8_shootIn_47 rfl (lv_at hl 3 rfl) ?_
    refine va_iast (D := D) hx hb hK hP hD hS 0 0 rfl rfl (vp_in_iff.mpr (by decide)) dX8_shootIn_48 (fun H locs hP hD hS => ?_)
    have hP : va_P D vwCl [(rw, .inl (tc 0, 357, .inl (upd row_5 (15 : Int32).toNatClampNeg p1)))] H := hP
    have hD : va_D A [(rw, .inl (tc 0, 357, .inl (upd row_5 (15 : Int32).toNatClampNeg p1)))] := hD
    obtain ⟨row_6, hw_6⟩ : ∃ z, (upd row_5 (15 : Int32).toNatClampNeg p1) = z := ⟨_, rfl⟩
    rw [hw_6] at hP hD
    have hv17_6 : (row_6 (17 : Int32).toNatClampNeg).toInt = (row_5 (17 : Int32).toNatClampNeg).toInt := by rw [← hw_6, pk_un (by decide)]
    refine lv_aload_n hx hb dX8_shootIn_49 rfl (lv_at hl 2 rfl) ?_
    refine lv_bipush (v := 17) hx hb dX8_shootIn_50 (by decide) ?_
    refine va_iald (D := D) hx hb hK hP 0 0 rfl rfl (vp_in_iff.mpr (by decide)) dX8_shootIn_52 ?_
    refine lv_iconst (v := 4) hx hb dX8_shootIn_53 (by decide) ?_
    refine lv_icmp_ne (tgt := 75) hx hb dX8_shootIn_54 (by decide) (fun c_7 => ?_) (fun c_7 => ?_)
    · refine lv_aload_n hx hb dX8_shootIn_75 rfl (lv_at hl 2 rfl) ?_
      refine lv_bipush (v := 17) hx hb dX8_shootIn_76 (by decide) ?_
      refine va_iald (D := D) hx hb hK hP 0 0 rfl rfl (vp_in_iff.mpr (by decide)) dX8_shootIn_78 ?_
      refine lv_istore (lv' := [(4, .int (row_6 (17 : Int32).toNatClampNeg)), (3, .int r_3), (2, .int (row (5 : Int32).toNatClampNeg)), (0, .ref rw), (1, .int p1)]) hx hb dX8_shootIn_79 hl (by decide) rfl (fun ls hl => ?_)
      refine lv_aload_n hx hb dX8_shootIn_81 rfl (lv_at hl 3 rfl) ?_
      refine lv_iload hx hb dX8_shootIn_82 (lv_at hl 0 rfl) ?_
      refine lv_iconst (v := 0) hx hb dX8_shootIn_84 (by decide) ?_
      refine fc_goi (isC := []) (isR := [0]) (wc := []) (wr := [(rw, .inl (tc 0, 357, .inl row_6))]) hP hD hS hA rfl rfl (by decide) (by decide) (fc_runS (isC := []) (As := [.int (row_6 (17 : Int32).toNatClampNeg), .int 0]) (rest := [.ref rw]) hx hb hml hown hts hK hE hP hD hS hA rfl (by decide) (c_X8_waitAt l D tc (row_6 (17 : Int32).toNatClampNeg) 0 _ ) (cwS 2 hts gX8_shootIn_X8_waitAt rfl rfl rfl hd_X8_waitAt ⟨Nat.le_of_ble_eq_true rfl, Nat.le_of_ble_eq_true rfl⟩) rfl hl.1 rfl (Nat.le_of_ble_eq_true rfl) dX8_shootIn_85 ⟨Nat.le_of_ble_eq_true rfl, Nat.le_of_ble_eq_true rfl⟩) (fun r_8 u_8 H locs hw_8 hP hD hS => ?_)
      try dsimp only at hw_8
      have hP : va_P D vwCl [(rw, .inl (tc 0, 357, .inl row_6))] H := hP
      have hD : va_D A [(rw, .inl (tc 0, 357, .inl row_6))] := hD
      have hf_8 := fx_waitAt hw_8 (by omega) (by decide)
      refine lv_iload_n hx hb dX8_shootIn_88 rfl (lv_at hl 2 rfl) ?_
      refine va_iast (D := D) hx hb hK hP hD hS 0 0 rfl rfl (by have l_mm1m : ((-1) : Int32).toInt = (-1) := (by decide); have l_0 : (0 : Int32).toInt = 0 := (by decide); have l_1 : (1 : Int32).toInt = 1 := (by decide); have l_15 : (15 : Int32).toInt = 15 := (by decide); have l_17 : (17 : Int32).toInt = 17 := (by decide); have l_2 : (2 : Int32).toInt = 2 := (by decide); have l_3 : (3 : Int32).toInt = 3 := (by decide); have l_4 : (4 : Int32).toInt = 4 := (by decide); have qc_1 := c_1; (try simp only [fc_le, fc_lt, fc_eq] at qc_1); have qc_7 := c_7; (try simp only [fc_le, fc_lt, fc_eq] at qc_7); rw [vp_in_iff]; omega) dX8_shootIn_89 (fun H locs hP hD hS => ?_)
      have hP : va_P D vwCl [(rw, .inl (tc 0, 357, .inl (upd row_6 r_8.toNatClampNeg (row (5 : Int32).toNatClampNeg))))] H := hP
      have hD : va_D A [(rw, .inl (tc 0, 357, .inl (upd row_6 r_8.toNatClampNeg (row (5 : Int32).toNatClampNeg))))] := hD
      obtain ⟨row_9, hw_9⟩ : ∃ z, (upd row_6 r_8.toNatClampNeg (row (5 : Int32).toNatClampNeg)) = z := ⟨_, rfl⟩
      rw [hw_9] at hP hD
      have hv17_9 : (row_9 (17 : Int32).toNatClampNeg).toInt = (row_6 (17 : Int32).toNatClampNeg).toInt := by rw [← hw_9, pk_un (by have l_mm1m : ((-1) : Int32).toInt = (-1) := (by decide); have l_0 : (0 : Int32).toInt = 0 := (by decide); have l_1 : (1 : Int32).toInt = 1 := (by decide); have l_15 : (15 : Int32).toInt = 15 := (by decide); have l_17 : (17 : Int32).toInt = 17 := (by decide); have l_2 : (2 : Int32).toInt = 2 := (by decide); have l_3 : (3 : Int32).toInt = 3 := (by decide); have l_4 : (4 : Int32).toInt = 4 := (by decide); have qc_1 := c_1; (try simp only [fc_le, fc_lt, fc_eq] at qc_1); have qc_7 := c_7; (try simp only [fc_le, fc_lt, fc_eq] at qc_7); simp only [fc_cl]; omega)]
      refine lv_aload_n hx hb dX8_shootIn_90 rfl (lv_at hl 3 rfl) ?_
      refine lv_iload hx hb dX8_shootIn_91 (lv_at hl 0 rfl) ?_
      refine lv_iconst (v := 1) hx hb dX8_shootIn_93 (by decide) ?_
      refine fc_goi (isC := []) (isR := [0]) (wc := []) (wr := [(rw, .inl (tc 0, 357, .inl row_9))]) hP hD hS hA rfl rfl (by decide) (by decide) (fc_runS (isC := []) (As := [.int (row_6 (17 : Int32).toNatClampNeg), .int 1]) (rest := [.ref rw]) hx hb hml hown hts hK hE hP hD hS hA rfl (by decide) (c_X8_waitAt l D tc (row_6 (17 : Int32).toNatClampNeg) 1 _ ) (cwS 2 hts gX8_shootIn_X8_waitAt rfl rfl rfl hd_X8_waitAt ⟨Nat.le_of_ble_eq_true rfl, Nat.le_of_ble_eq_true rfl⟩) rfl hl.1 rfl (Nat.le_of_ble_eq_true rfl) dX8_shootIn_94 ⟨Nat.le_of_ble_eq_true rfl, Nat.le_of_ble_eq_true rfl⟩) (fun r_10 u_10 H locs hw_10 hP hD hS => ?_)
      try dsimp only at hw_10
      have hP : va_P D vwCl [(rw, .inl (tc 0, 357, .inl row_9))] H := hP
      have hD : va_D A [(rw, .inl (tc 0, 357, .inl row_9))] := hD
      have hf_10 := fx_waitAt hw_10 (by omega) (by decide)
      refine lv_iload_n hx hb dX8_shootIn_97 rfl (lv_at hl 4 rfl) ?_
      refine va_iast (D := D) hx hb hK hP hD hS 0 0 rfl rfl (by have l_mm1m : ((-1) : Int32).toInt = (-1) := (by decide); have l_0 : (0 : Int32).toInt = 0 := (by decide); have l_1 : (1 : Int32).toInt = 1 := (by decide); have l_15 : (15 : Int32).toInt = 15 := (by decide); have l_17 : (17 : Int32).toInt = 17 := (by decide); have l_2 : (2 : Int32).toInt = 2 := (by decide); have l_3 : (3 : Int32).toInt = 3 := (by decide); have l_4 : (4 : Int32).toInt = 4 := (by decide); have qc_1 := c_1; (try simp only [fc_le, fc_lt, fc_eq] at qc_1); have qc_7 := c_7; (try simp only [fc_le, fc_lt, fc_eq] at qc_7); rw [vp_in_iff]; omega) dX8_shootIn_98 (fun H locs hP hD hS => ?_)
      have hP : va_P D vwCl [(rw, .inl (tc 0, 357, .inl (upd row_9 r_10.toNatClampNeg p1)))] H := hP
      have hD : va_D A [(rw, .inl (tc 0, 357, .inl (upd row_9 r_10.toNatClampNeg p1)))] := hD
      obtain ⟨row_11, hw_11⟩ : ∃ z, (upd row_9 r_10.toNatClampNeg p1) = z := ⟨_, rfl⟩
      rw [hw_11] at hP hD
      have hv17_11 : (row_11 (17 : Int32).toNatClampNeg).toInt = (row_9 (17 : Int32).toNatClampNeg).toInt := by rw [← hw_11, pk_un (by have l_mm1m : ((-1) : Int32).toInt = (-1) := (by decide); have l_0 : (0 : Int32).toInt = 0 := (by decide); have l_1 : (1 : Int32).toInt = 1 := (by decide); have l_15 : (15 : Int32).toInt = 15 := (by decide); have l_17 : (17 : Int32).toInt = 17 := (by decide); have l_2 : (2 : Int32).toInt = 2 := (by decide); have l_3 : (3 : Int32).toInt = 3 := (by decide); have l_4 : (4 : Int32).toInt = 4 := (by decide); have qc_1 := c_1; (try simp only [fc_le, fc_lt, fc_eq] at qc_1); have qc_7 := c_7; (try simp only [fc_le, fc_lt, fc_eq] at qc_7); simp only [fc_cl]; omega)]
      refine lv_aload_n hx hb dX8_shootIn_99 rfl (lv_at hl 3 rfl) ?_
      refine lv_iload hx hb dX8_shootIn_100 (lv_at hl 0 rfl) ?_
      refine lv_iconst (v := 2) hx hb dX8_shootIn_102 (by decide) ?_
      refine fc_goi (isC := []) (isR := [0]) (wc := []) (wr := [(rw, .inl (tc 0, 357, .inl row_11))]) hP hD hS hA rfl rfl (by decide) (by decide) (fc_runS (isC := []) (As := [.int (row_6 (17 : Int32).toNatClampNeg), .int 2]) (rest := [.ref rw]) hx hb hml hown hts hK hE hP hD hS hA rfl (by decide) (c_X8_waitAt l D tc (row_6 (17 : Int32).toNatClampNeg) 2 _ ) (cwS 2 hts gX8_shootIn_X8_waitAt rfl rfl rfl hd_X8_waitAt ⟨Nat.le_of_ble_eq_true rfl, Nat.le_of_ble_eq_true rfl⟩) rfl hl.1 rfl (Nat.le_of_ble_eq_true rfl) dX8_shootIn_103 ⟨Nat.le_of_ble_eq_true rfl, Nat.le_of_ble_eq_true rfl⟩) (fun r_12 u_12 H locs hw_12 hP hD hS => ?_)
      try dsimp only at hw_12
      have hP : va_P D vwCl [(rw, .inl (tc 0, 357, .inl row_11))] H := hP
      have hD : va_D A [(rw, .inl (tc 0, 357, .inl row_11))] := hD
      have hf_12 := fx_waitAt hw_12 (by omega) (by decide)
      refine lv_iload_n hx hb dX8_shootIn_106 rfl (lv_at hl 1 rfl) ?_
      refine va_iast (D := D) hx hb hK hP hD hS 0 0 rfl rfl (by have l_mm1m : ((-1) : Int32).toInt = (-1) := (by decide); have l_0 : (0 : Int32).toInt = 0 := (by decide); have l_1 : (1 : Int32).toInt = 1 := (by decide); have l_15 : (15 : Int32).toInt = 15 := (by decide); have l_17 : (17 : Int32).toInt = 17 := (by decide); have l_2 : (2 : Int32).toInt = 2 := (by decide); have l_3 : (3 : Int32).toInt = 3 := (by decide); have l_4 : (4 : Int32).toInt = 4 := (by decide); have qc_1 := c_1; (try simp only [fc_le, fc_lt, fc_eq] at qc_1); have qc_7 := c_7; (try simp only [fc_le, fc_lt, fc_eq] at qc_7); rw [vp_in_iff]; omega) dX8_shootIn_107 (fun H locs hP hD hS => ?_)
      have hP : va_P D vwCl [(rw, .inl (tc 0, 357, .inl (upd row_11 r_12.toNatClampNeg r_3)))] H := hP
      have hD : va_D A [(rw, .inl (tc 0, 357, .inl (upd row_11 r_12.toNatClampNeg r_3)))] := hD
      obtain ⟨row_13, hw_13⟩ : ∃ z, (upd row_11 r_12.toNatClampNeg r_3) = z := ⟨_, rfl⟩
      rw [hw_13] at hP hD
      have hv17_13 : (row_13 (17 : Int32).toNatClampNeg).toInt = (row_11 (17 : Int32).toNatClampNeg).toInt := by rw [← hw_13, pk_un (by have l_mm1m : ((-1) : Int32).toInt = (-1) := (by decide); have l_0 : (0 : Int32).toInt = 0 := (by decide); have l_1 : (1 : Int32).toInt = 1 := (by decide); have l_15 : (15 : Int32).toInt = 15 := (by decide); have l_17 : (17 : Int32).toInt = 17 := (by decide); have l_2 : (2 : Int32).toInt = 2 := (by decide); have l_3 : (3 : Int32).toInt = 3 := (by decide); have l_4 : (4 : Int32).toInt = 4 := (by decide); have qc_1 := c_1; (try simp only [fc_le, fc_lt, fc_eq] at qc_1); have qc_7 := c_7; (try simp only [fc_le, fc_lt, fc_eq] at qc_7); simp only [fc_cl]; omega)]
      refine lv_aload_n hx hb dX8_shootIn_108 rfl (lv_at hl 3 rfl) ?_
      refine lv_iload hx hb dX8_shootIn_109 (lv_at hl 0 rfl) ?_
      refine lv_iconst (v := 3) hx hb dX8_shootIn_111 (by decide) ?_
      refine fc_goi (isC := []) (isR := [0]) (wc := []) (wr := [(rw, .inl (tc 0, 357, .inl row_13))]) hP hD hS hA rfl rfl (by decide) (by decide) (fc_runS (isC := []) (As := [.int (row_6 (17 : Int32).toNatClampNeg), .int 3]) (rest := [.ref rw]) hx hb hml hown hts hK hE hP hD hS hA rfl (by decide) (c_X8_waitAt l D tc (row_6 (17 : Int32).toNatClampNeg) 3 _ ) (cwS 2 hts gX8_shootIn_X8_waitAt rfl rfl rfl hd_X8_waitAt ⟨Nat.le_of_ble_eq_true rfl, Nat.le_of_ble_eq_true rfl⟩) rfl hl.1 rfl (Nat.le_of_ble_eq_true rfl) dX8_shootIn_112 ⟨Nat.le_of_ble_eq_true rfl, Nat.le_of_ble_eq_true rfl⟩) (fun r_14 u_14 H locs hw_14 hP hD hS => ?_)
      try dsimp only at hw_14
      have hP : va_P D vwCl [(rw, .inl (tc 0, 357, .inl row_13))] H := hP
      have hD : va_D A [(rw, .inl (tc 0, 357, .inl row_13))] := hD
      have hf_14 := fx_waitAt hw_14 (by omega) (by decide)
      refine lv_aload_n hx hb dX8_shootIn_115 rfl (lv_at hl 3 rfl) ?_
      refine lv_iconst (v := 4) hx hb dX8_shootIn_116 (by decide) ?_
      refine va_iald (D := D) hx hb hK hP 0 0 rfl rfl (vp_in_iff.mpr (by decide)) dX8_shootIn_117 ?_
      refine va_iast (D := D) hx hb hK hP hD hS 0 0 rfl rfl (by have l_mm1m : ((-1) : Int32).toInt = (-1) := (by decide); have l_0 : (0 : Int32).toInt = 0 := (by decide); have l_1 : (1 : Int32).toInt = 1 := (by decide); have l_15 : (15 : Int32).toInt = 15 := (by decide); have l_17 : (17 : Int32).toInt = 17 := (by decide); have l_2 : (2 : Int32).toInt = 2 := (by decide); have l_3 : (3 : Int32).toInt = 3 := (by decide); have l_4 : (4 : Int32).toInt = 4 := (by decide); have qc_1 := c_1; (try simp only [fc_le, fc_lt, fc_eq] at qc_1); have qc_7 := c_7; (try simp only [fc_le, fc_lt, fc_eq] at qc_7); rw [vp_in_iff]; omega) dX8_shootIn_118 (fun H locs hP hD hS => ?_)
      have hP : va_P D vwCl [(rw, .inl (tc 0, 357, .inl (upd row_13 r_14.toNatClampNeg (row_13 (4 : Int32).toNatClampNeg))))] H := hP
      have hD : va_D A [(rw, .inl (tc 0, 357, .inl (upd row_13 r_14.toNatClampNeg (row_13 (4 : Int32).toNatClampNeg))))] := hD
      obtain ⟨row_15, hw_15⟩ : ∃ z, (upd row_13 r_14.toNatClampNeg (row_13 (4 : Int32).toNatClampNeg)) = z := ⟨_, rfl⟩
      rw [hw_15] at hP hD
      have hv17_15 : (row_15 (17 : Int32).toNatClampNeg).toInt = (row_13 (17 : Int32).toNatClampNeg).toInt := by rw [← hw_15, pk_un (by have l_mm1m : ((-1) : Int32).toInt = (-1) := (by decide); have l_0 : (0 : Int32).toInt = 0 := (by decide); have l_1 : (1 : Int32).toInt = 1 := (by decide); have l_15 : (15 : Int32).toInt = 15 := (by decide); have l_17 : (17 : Int32).toInt = 17 := (by decide); have l_2 : (2 : Int32).toInt = 2 := (by decide); have l_3 : (3 : Int32).toInt = 3 := (by decide); have l_4 : (4 : Int32).toInt = 4 := (by decide); have qc_1 := c_1; (try simp only [fc_le, fc_lt, fc_eq] at qc_1); have qc_7 := c_7; (try simp only [fc_le, fc_lt, fc_eq] at qc_7); simp only [fc_cl]; omega)]
      refine lv_aload_n hx hb dX8_shootIn_119 rfl (lv_at hl 3 rfl) ?_
      refine lv_bipush (v := 17) hx hb dX8_shootIn_120 (by decide) ?_
      refine lv_dup2_11 hx hb dX8_shootIn_122 rfl rfl ?_
      refine va_iald (D := D) hx hb hK hP 0 0 rfl rfl (vp_in_iff.mpr (by decide)) dX8_shootIn_123 ?_
      refine lv_iconst (v := 1) hx hb dX8_shootIn_124 (by decide) ?_
      refine lv_iadd hx hb dX8_shootIn_125 ?_
      refine va_iast (D := D) hx hb hK hP hD hS 0 0 rfl rfl (vp_in_iff.mpr (by decide)) dX8_shootIn_126 (fun H locs hP hD hS => ?_)
      have hP : va_P D vwCl [(rw, .inl (tc 0, 357, .inl (upd row_15 (17 : Int32).toNatClampNeg ((row_15 (17 : Int32).toNatClampNeg) + 1))))] H := hP
      have hD : va_D A [(rw, .inl (tc 0, 357, .inl (upd row_15 (17 : Int32).toNatClampNeg ((row_15 (17 : Int32).toNatClampNeg) + 1))))] := hD
      obtain ⟨row_16, hw_16⟩ : ∃ z, (upd row_15 (17 : Int32).toNatClampNeg ((row_15 (17 : Int32).toNatClampNeg) + 1)) = z := ⟨_, rfl⟩
      rw [hw_16] at hP hD
      have hv17_16 : (row_16 (17 : Int32).toNatClampNeg).toInt = (((row_15 (17 : Int32).toNatClampNeg) + 1)).toInt := by rw [← hw_16, pk_us]
      have av16_1 := fc_addk (x := (row_15 (17 : Int32).toNatClampNeg)) (k := 1) (n := 1) (by decide) (by omega) (by omega)
      refine lv_iload_n hx hb dX8_shootIn_127 rfl (lv_at hl 2 rfl) ?_
      exact hret _ _ (row (5 : Int32).toNatClampNeg) row_16 _ _ (by rw [mX8_shootIn]; (try dsimp only); rw [if_neg c_1]; rw [hw_2]; (try dsimp only); rw [hw_3]; (try dsimp only); rw [hw_4]; (try dsimp only); rw [hw_5]; (try dsimp only); rw [hw_6]; (try dsimp only); rw [if_neg c_7]; rw [hw_8]; (try dsimp only); rw [hw_9]; (try dsimp only); rw [hw_10]; (try dsimp only); rw [hw_11]; (try dsimp only); rw [hw_12]; (try dsimp only); rw [hw_13]; (try dsimp only); rw [hw_14]; (try dsimp only); rw [hw_15]; (try dsimp only); rw [hw_16]; (try dsimp only); (first | done | rfl)) (hP.sub [0] rfl) (hD.sub [0] (by decide) rfl) hS dX8_shootIn_128
    · refine lv_aload_n hx hb dX8_shootIn_57 rfl (lv_at hl 2 rfl) ?_
      refine lv_bipush (v := 7) hx hb dX8_shootIn_58 (by decide) ?_
      refine lv_dup2_11 hx hb dX8_shootIn_60 rfl rfl ?_
      refine va_iald (D := D) hx hb hK hP 0 0 rfl rfl (vp_in_iff.mpr (by decide)) dX8_shootIn_61 ?_
      refine lv_iconst (v := 1) hx hb dX8_shootIn_62 (by decide) ?_
      refine lv_iadd hx hb dX8_shootIn_63 ?_
      refine va_iast (D := D) hx hb hK hP hD hS 0 0 rfl rfl (vp_in_iff.mpr (by decide)) dX8_shootIn_64 (fun H locs hP hD hS => ?_)
      have hP : va_P D vwCl [(rw, .inl (tc 0, 357, .inl (upd row_6 (7 : Int32).toNatClampNeg ((row_6 (7 : Int32).toNatClampNeg) + 1))))] H := hP
      have hD : va_D A [(rw, .inl (tc 0, 357, .inl (upd row_6 (7 : Int32).toNatClampNeg ((row_6 (7 : Int32).toNatClampNeg) + 1))))] := hD
      obtain ⟨row_17, hw_17⟩ : ∃ z, (upd row_6 (7 : Int32).toNatClampNeg ((row_6 (7 : Int32).toNatClampNeg) + 1)) = z := ⟨_, rfl⟩
      rw [hw_17] at hP hD
      have hv17_17 : (row_17 (17 : Int32).toNatClampNeg).toInt = (row_6 (17 : Int32).toNatClampNeg).toInt := by rw [← hw_17, pk_un (by decide)]
      refine lv_aload_n hx hb dX8_shootIn_65 rfl (lv_at hl 2 rfl) ?_
      refine lv_bipush (v := 14) hx hb dX8_shootIn_66 (by decide) ?_
      refine lv_dup2_11 hx hb dX8_shootIn_68 rfl rfl ?_
      refine va_iald (D := D) hx hb hK hP 0 0 rfl rfl (vp_in_iff.mpr (by decide)) dX8_shootIn_69 ?_
      refine lv_iconst (v := 1) hx hb dX8_shootIn_70 (by decide) ?_
      refine lv_iadd hx hb dX8_shootIn_71 ?_
      refine va_iast (D := D) hx hb hK hP hD hS 0 0 rfl rfl (vp_in_iff.mpr (by decide)) dX8_shootIn_72 (fun H locs hP hD hS => ?_)
      have hP : va_P D vwCl [(rw, .inl (tc 0, 357, .inl (upd row_17 (14 : Int32).toNatClampNeg ((row_17 (14 : Int32).toNatClampNeg) + 1))))] H := hP
      have hD : va_D A [(rw, .inl (tc 0, 357, .inl (upd row_17 (14 : Int32).toNatClampNeg ((row_17 (14 : Int32).toNatClampNeg) + 1))))] := hD
      obtain ⟨row_18, hw_18⟩ : ∃ z, (upd row_17 (14 : Int32).toNatClampNeg ((row_17 (14 : Int32).toNatClampNeg) + 1)) = z := ⟨_, rfl⟩
      rw [hw_18] at hP hD
      have hv17_18 : (row_18 (17 : Int32).toNatClampNeg).toInt = (row_17 (17 : Int32).toNatClampNeg).toInt := by rw [← hw_18, pk_un (by decide)]
      refine lv_iconst (v := (-1)) hx hb dX8_shootIn_73 (by decide) ?_
      exact hret _ _ (-1) row_18 _ _ (by rw [mX8_shootIn]; (try dsimp only); rw [if_neg c_1]; rw [hw_2]; (try dsimp only); rw [hw_3]; (try dsimp only); rw [hw_4]; (try dsimp only); rw [hw_5]; (try dsimp only); rw [hw_6]; (try dsimp only); rw [if_pos c_7]; rw [hw_17]; (try dsimp only); rw [hw_18]; (try dsimp only); (first | done | rfl)) (hP.sub [0] rfl) (hD.sub [0] (by decide) rfl) hS dX8_shootIn_74
  · refine lv_bipush (v := 7) hx hb dX8_shootIn_12 (by decide) ?_
    refine lv_goto (tgt := 28) hx hb dX8_shootIn_14 (by decide) ?_
    refine lv_istore_n (lv' := [(3, .int 7), (2, .int (row (5 : Int32).toNatClampNeg)), (0, .ref rw), (1, .int p1)]) hx hb dX8_shootIn_28 rfl hl (by decide) rfl (fun ls hl => ?_)
    refine lv_aload_n hx hb dX8_shootIn_29 rfl (lv_at hl 2 rfl) ?_
    refine lv_iconst (v := 5) hx hb dX8_shootIn_30 (by decide) ?_
    refine lv_dup2_11 hx hb dX8_shootIn_31 rfl rfl ?_
    refine va_iald (D := D) hx hb hK hP 0 0 rfl rfl (vp_in_iff.mpr (by decide)) dX8_shootIn_32 ?_
    refine lv_iconst (v := 1) hx hb dX8_shootIn_33 (by decide) ?_
    refine lv_iadd hx hb dX8_shootIn_34 ?_
    refine va_iast (D := D) hx hb hK hP hD hS 0 0 rfl rfl (vp_in_iff.mpr (by decide)) dX8_shootIn_35 (fun H locs hP hD hS => ?_)
    have hP : va_P D vwCl [(rw, .inl (tc 0, 357, .inl (upd row (5 : Int32).toNatClampNeg ((row (5 : Int32).toNatClampNeg) + 1))))] H := hP
    have hD : va_D A [(rw, .inl (tc 0, 357, .inl (upd row (5 : Int32).toNatClampNeg ((row (5 : Int32).toNatClampNeg) + 1))))] := hD
    obtain ⟨row_19, hw_19⟩ : ∃ z, (upd row (5 : Int32).toNatClampNeg ((row (5 : Int32).toNatClampNeg) + 1)) = z := ⟨_, rfl⟩
    rw [hw_19] at hP hD
    have hv17_19 : (row_19 (17 : Int32).toNatClampNeg).toInt = (row (17 : Int32).toNatClampNeg).toInt := by rw [← hw_19, pk_un (by decide)]
    refine lv_aload_n hx hb dX8_shootIn_36 rfl (lv_at hl 2 rfl) ?_
    refine lv_bipush (v := 13) hx hb dX8_shootIn_37 (by decide) ?_
    refine lv_dup2_11 hx hb dX8_shootIn_39 rfl rfl ?_
    refine va_iald (D := D) hx hb hK hP 0 0 rfl rfl (vp_in_iff.mpr (by decide)) dX8_shootIn_40 ?_
    refine lv_iconst (v := 1) hx hb dX8_shootIn_41 (by decide) ?_
    refine lv_iadd hx hb dX8_shootIn_42 ?_
    refine va_iast (D := D) hx hb hK hP hD hS 0 0 rfl rfl (vp_in_iff.mpr (by decide)) dX8_shootIn_43 (fun H locs hP hD hS => ?_)
    have hP : va_P D vwCl [(rw, .inl (tc 0, 357, .inl (upd row_19 (13 : Int32).toNatClampNeg ((row_19 (13 : Int32).toNatClampNeg) + 1))))] H := hP
    have hD : va_D A [(rw, .inl (tc 0, 357, .inl (upd row_19 (13 : Int32).toNatClampNeg ((row_19 (13 : Int32).toNatClampNeg) + 1))))] := hD
    obtain ⟨row_20, hw_20⟩ : ∃ z, (upd row_19 (13 : Int32).toNatClampNeg ((row_19 (13 : Int32).toNatClampNeg) + 1)) = z := ⟨_, rfl⟩
    rw [hw_20] at hP hD
    have hv17_20 : (row_20 (17 : Int32).toNatClampNeg).toInt = (row_19 (17 : Int32).toNatClampNeg).toInt := by rw [← hw_20, pk_un (by decide)]
    refine lv_aload_n hx hb dX8_shootIn_44 rfl (lv_at hl 2 rfl) ?_
    refine lv_bipush (v := 15) hx hb dX8_shootIn_45 (by decide) ?_
    refine lv_iload_n hx hb dX8_shootIn_47 rfl (lv_at hl 3 rfl) ?_
    refine va_iast (D := D) hx hb hK hP hD hS 0 0 rfl rfl (vp_in_iff.mpr (by decide)) dX8_shootIn_48 (fun H locs hP hD hS => ?_)
    have hP : va_P D vwCl [(rw, .inl (tc 0, 357, .inl (upd row_20 (15 : Int32).toNatClampNeg p1)))] H := hP
    have hD : va_D A [(rw, .inl (tc 0, 357, .inl (upd row_20 (15 : Int32).toNatClampNeg p1)))] := hD
    obtain ⟨row_21, hw_21⟩ : ∃ z, (upd row_20 (15 : Int32).toNatClampNeg p1) = z := ⟨_, rfl⟩
    rw [hw_21] at hP hD
    have hv17_21 : (row_21 (17 : Int32).toNatClampNeg).toInt = (row_20 (17 : Int32).toNatClampNeg).toInt := by rw [← hw_21, pk_un (by decide)]
    refine lv_aload_n hx hb dX8_shootIn_49 rfl (lv_at hl 2 rfl) ?_
    refine lv_bipush (v := 17) hx hb dX8_shootIn_50 (by decide) ?_
    refine va_iald (D := D) hx hb hK hP 0 0 rfl rfl (vp_in_iff.mpr (by decide)) dX8_shootIn_52 ?_
    refine lv_iconst (v := 4) hx hb dX8_shootIn_53 (by decide) ?_
    refine lv_icmp_ne (tgt := 75) hx hb dX8_shootIn_54 (by decide) (fun c_22 => ?_) (fun c_22 => ?_)
    · refine lv_aload_n hx hb dX8_shootIn_75 rfl (lv_at hl 2 rfl) ?_
      refine lv_bipush (v := 17) hx hb dX8_shootIn_76 (by decide) ?_
      refine va_iald (D := D) hx hb hK hP 0 0 rfl rfl (vp_in_iff.mpr (by decide)) dX8_shootIn_78 ?_
      refine lv_istore (lv' := [(4, .int (row_21 (17 : Int32).toNatClampNeg)), (3, .int 7), (2, .int (row (5 : Int32).toNatClampNeg)), (0, .ref rw), (1, .int p1)]) hx hb dX8_shootIn_79 hl (by decide) rfl (fun ls hl => ?_)
      refine lv_aload_n hx hb dX8_shootIn_81 rfl (lv_at hl 3 rfl) ?_
      refine lv_iload hx hb dX8_shootIn_82 (lv_at hl 0 rfl) ?_
      refine lv_iconst (v := 0) hx hb dX8_shootIn_84 (by decide) ?_
      refine fc_goi (isC := []) (isR := [0]) (wc := []) (wr := [(rw, .inl (tc 0, 357, .inl row_21))]) hP hD hS hA rfl rfl (by decide) (by decide) (fc_runS (isC := []) (As := [.int (row_21 (17 : Int32).toNatClampNeg), .int 0]) (rest := [.ref rw]) hx hb hml hown hts hK hE hP hD hS hA rfl (by decide) (c_X8_waitAt l D tc (row_21 (17 : Int32).toNatClampNeg) 0 _ ) (cwS 2 hts gX8_shootIn_X8_waitAt rfl rfl rfl hd_X8_waitAt ⟨Nat.le_of_ble_eq_true rfl, Nat.le_of_ble_eq_true rfl⟩) rfl hl.1 rfl (Nat.le_of_ble_eq_true rfl) dX8_shootIn_85 ⟨Nat.le_of_ble_eq_true rfl, Nat.le_of_ble_eq_true rfl⟩) (fun r_23 u_23 H locs hw_23 hP hD hS => ?_)
      try dsimp only at hw_23
      have hP : va_P D vwCl [(rw, .inl (tc 0, 357, .inl row_21))] H := hP
      have hD : va_D A [(rw, .inl (tc 0, 357, .inl row_21))] := hD
      have hf_23 := fx_waitAt hw_23 (by omega) (by decide)
      refine lv_iload_n hx hb dX8_shootIn_88 rfl (lv_at hl 2 rfl) ?_
      refine va_iast (D := D) hx hb hK hP hD hS 0 0 rfl rfl (by have l_mm1m : ((-1) : Int32).toInt = (-1) := (by decide); have l_0 : (0 : Int32).toInt = 0 := (by decide); have l_1 : (1 : Int32).toInt = 1 := (by decide); have l_15 : (15 : Int32).toInt = 15 := (by decide); have l_17 : (17 : Int32).toInt = 17 := (by decide); have l_2 : (2 : Int32).toInt = 2 := (by decide); have l_3 : (3 : Int32).toInt = 3 := (by decide); have l_4 : (4 : Int32).toInt = 4 := (by decide); have qc_1 := c_1; (try simp only [fc_le, fc_lt, fc_eq] at qc_1); have qc_22 := c_22; (try simp only [fc_le, fc_lt, fc_eq] at qc_22); rw [vp_in_iff]; omega) dX8_shootIn_89 (fun H locs hP hD hS => ?_)
      have hP : va_P D vwCl [(rw, .inl (tc 0, 357, .inl (upd row_21 r_23.toNatClampNeg (row (5 : Int32).toNatClampNeg))))] H := hP
      have hD : va_D A [(rw, .inl (tc 0, 357, .inl (upd row_21 r_23.toNatClampNeg (row (5 : Int32).toNatClampNeg))))] := hD
      obtain ⟨row_24, hw_24⟩ : ∃ z, (upd row_21 r_23.toNatClampNeg (row (5 : Int32).toNatClampNeg)) = z := ⟨_, rfl⟩
      rw [hw_24] at hP hD
      have hv17_24 : (row_24 (17 : Int32).toNatClampNeg).toInt = (row_21 (17 : Int32).toNatClampNeg).toInt := by rw [← hw_24, pk_un (by have l_mm1m : ((-1) : Int32).toInt = (-1) := (by decide); have l_0 : (0 : Int32).toInt = 0 := (by decide); have l_1 : (1 : Int32).toInt = 1 := (by decide); have l_15 : (15 : Int32).toInt = 15 := (by decide); have l_17 : (17 : Int32).toInt = 17 := (by decide); have l_2 : (2 : Int32).toInt = 2 := (by decide); have l_3 : (3 : Int32).toInt = 3 := (by decide); have l_4 : (4 : Int32).toInt = 4 := (by decide); have qc_1 := c_1; (try simp only [fc_le, fc_lt, fc_eq] at qc_1); have qc_22 := c_22; (try simp only [fc_le, fc_lt, fc_eq] at qc_22); simp only [fc_cl]; omega)]
      refine lv_aload_n hx hb dX8_shootIn_90 rfl (lv_at hl 3 rfl) ?_
      refine lv_iload hx hb dX8_shootIn_91 (lv_at hl 0 rfl) ?_
      refine lv_iconst (v := 1) hx hb dX8_shootIn_93 (by decide) ?_
      refine fc_goi (isC := []) (isR := [0]) (wc := []) (wr := [(rw, .inl (tc 0, 357, .inl row_24))]) hP hD hS hA rfl rfl (by decide) (by decide) (fc_runS (isC := []) (As := [.int (row_21 (17 : Int32).toNatClampNeg), .int 1]) (rest := [.ref rw]) hx hb hml hown hts hK hE hP hD hS hA rfl (by decide) (c_X8_waitAt l D tc (row_21 (17 : Int32).toNatClampNeg) 1 _ ) (cwS 2 hts gX8_shootIn_X8_waitAt rfl rfl rfl hd_X8_waitAt ⟨Nat.le_of_ble_eq_true rfl, Nat.le_of_ble_eq_true rfl⟩) rfl hl.1 rfl (Nat.le_of_ble_eq_true rfl) dX8_shootIn_94 ⟨Nat.le_of_ble_eq_true rfl, Nat.le_of_ble_eq_true rfl⟩) (fun r_25 u_25 H locs hw_25 hP hD hS => ?_)
      try dsimp only at hw_25
      have hP : va_P D vwCl [(rw, .inl (tc 0, 357, .inl row_24))] H := hP
      have hD : va_D A [(rw, .inl (tc 0, 357, .inl row_24))] := hD
      have hf_25 := fx_waitAt hw_25 (by omega) (by decide)
      refine lv_iload_n hx hb dX8_shootIn_97 rfl (lv_at hl 4 rfl) ?_
      refine va_iast (D := D) hx hb hK hP hD hS 0 0 rfl rfl (by have l_mm1m : ((-1) : Int32).toInt = (-1) := (by decide); have l_0 : (0 : Int32).toInt = 0 := (by decide); have l_1 : (1 : Int32).toInt = 1 := (by decide); have l_15 : (15 : Int32).toInt = 15 := (by decide); have l_17 : (17 : Int32).toInt = 17 := (by decide); have l_2 : (2 : Int32).toInt = 2 := (by decide); have l_3 : (3 : Int32).toInt = 3 := (by decide); have l_4 : (4 : Int32).toInt = 4 := (by decide); have qc_1 := c_1; (try simp only [fc_le, fc_lt, fc_eq] at qc_1); have qc_22 := c_22; (try simp only [fc_le, fc_lt, fc_eq] at qc_22); rw [vp_in_iff]; omega) dX8_shootIn_98 (fun H locs hP hD hS => ?_)
      have hP : va_P D vwCl [(rw, .inl (tc 0, 357, .inl (upd row_24 r_25.toNatClampNeg p1)))] H := hP
      have hD : va_D A [(rw, .inl (tc 0, 357, .inl (upd row_24 r_25.toNatClampNeg p1)))] := hD
      obtain ⟨row_26, hw_26⟩ : ∃ z, (upd row_24 r_25.toNatClampNeg p1) = z := ⟨_, rfl⟩
      rw [hw_26] at hP hD
      have hv17_26 : (row_26 (17 : Int32).toNatClampNeg).toInt = (row_24 (17 : Int32).toNatClampNeg).toInt := by rw [← hw_26, pk_un (by have l_mm1m : ((-1) : Int32).toInt = (-1) := (by decide); have l_0 : (0 : Int32).toInt = 0 := (by decide); have l_1 : (1 : Int32).toInt = 1 := (by decide); have l_15 : (15 : Int32).toInt = 15 := (by decide); have l_17 : (17 : Int32).toInt = 17 := (by decide); have l_2 : (2 : Int32).toInt = 2 := (by decide); have l_3 : (3 : Int32).toInt = 3 := (by decide); have l_4 : (4 : Int32).toInt = 4 := (by decide); have qc_1 := c_1; (try simp only [fc_le, fc_lt, fc_eq] at qc_1); have qc_22 := c_22; (try simp only [fc_le, fc_lt, fc_eq] at qc_22); simp only [fc_cl]; omega)]
      refine lv_aload_n hx hb dX8_shootIn_99 rfl (lv_at hl 3 rfl) ?_
      refine lv_iload hx hb dX8_shootIn_100 (lv_at hl 0 rfl) ?_
      refine lv_iconst (v := 2) hx hb dX8_shootIn_102 (by decide) ?_
      refine fc_goi (isC := []) (isR := [0]) (wc := []) (wr := [(rw, .inl (tc 0, 357, .inl row_26))]) hP hD hS hA rfl rfl (by decide) (by decide) (fc_runS (isC := []) (As := [.int (row_21 (17 : Int32).toNatClampNeg), .int 2]) (rest := [.ref rw]) hx hb hml hown hts hK hE hP hD hS hA rfl (by decide) (c_X8_waitAt l D tc (row_21 (17 : Int32).toNatClampNeg) 2 _ ) (cwS 2 hts gX8_shootIn_X8_waitAt rfl rfl rfl hd_X8_waitAt ⟨Nat.le_of_ble_eq_true rfl, Nat.le_of_ble_eq_true rfl⟩) rfl hl.1 rfl (Nat.le_of_ble_eq_true rfl) dX8_shootIn_103 ⟨Nat.le_of_ble_eq_true rfl, Nat.le_of_ble_eq_true rfl⟩) (fun r_27 u_27 H locs hw_27 hP hD hS => ?_)
      try dsimp only at hw_27
      have hP : va_P D vwCl [(rw, .inl (tc 0, 357, .inl row_26))] H := hP
      have hD : va_D A [(rw, .inl (tc 0, 357, .inl row_26))] := hD
      have hf_27 := fx_waitAt hw_27 (by omega) (by decide)
      refine lv_iload_n hx hb dX8_shootIn_106 rfl (lv_at hl 1 rfl) ?_
      refine va_iast (D := D) hx hb hK hP hD hS 0 0 rfl rfl (by have l_mm1m : ((-1) : Int32).toInt = (-1) := (by decide); have l_0 : (0 : Int32).toInt = 0 := (by decide); have l_1 : (1 : Int32).toInt = 1 := (by decide); have l_15 : (15 : Int32).toInt = 15 := (by decide); have l_17 : (17 : Int32).toInt = 17 := (by decide); have l_2 : (2 : Int32).toInt = 2 := (by decide); have l_3 : (3 : Int32).toInt = 3 := (by decide); have l_4 : (4 : Int32).toInt = 4 := (by decide); have qc_1 := c_1; (try simp only [fc_le, fc_lt, fc_eq] at qc_1); have qc_22 := c_22; (try simp only [fc_le, fc_lt, fc_eq] at qc_22); rw [vp_in_iff]; omega) dX8_shootIn_107 (fun H locs hP hD hS => ?_)
      have hP : va_P D vwCl [(rw, .inl (tc 0, 357, .inl (upd row_26 r_27.toNatClampNeg 7)))] H := hP
      have hD : va_D A [(rw, .inl (tc 0, 357, .inl (upd row_26 r_27.toNatClampNeg 7)))] := hD
      obtain ⟨row_28, hw_28⟩ : ∃ z, (upd row_26 r_27.toNatClampNeg 7) = z := ⟨_, rfl⟩
      rw [hw_28] at hP hD
      have hv17_28 : (row_28 (17 : Int32).toNatClampNeg).toInt = (row_26 (17 : Int32).toNatClampNeg).toInt := by rw [← hw_28, pk_un (by have l_mm1m : ((-1) : Int32).toInt = (-1) := (by decide); have l_0 : (0 : Int32).toInt = 0 := (by decide); have l_1 : (1 : Int32).toInt = 1 := (by decide); have l_15 : (15 : Int32).toInt = 15 := (by decide); have l_17 : (17 : Int32).toInt = 17 := (by decide); have l_2 : (2 : Int32).toInt = 2 := (by decide); have l_3 : (3 : Int32).toInt = 3 := (by decide); have l_4 : (4 : Int32).toInt = 4 := (by decide); have qc_1 := c_1; (try simp only [fc_le, fc_lt, fc_eq] at qc_1); have qc_22 := c_22; (try simp only [fc_le, fc_lt, fc_eq] at qc_22); simp only [fc_cl]; omega)]
      refine lv_aload_n hx hb dX8_shootIn_108 rfl (lv_at hl 3 rfl) ?_
      refine lv_iload hx hb dX8_shootIn_109 (lv_at hl 0 rfl) ?_
      refine lv_iconst (v := 3) hx hb dX8_shootIn_111 (by decide) ?_
      refine fc_goi (isC := []) (isR := [0]) (wc := []) (wr := [(rw, .inl (tc 0, 357, .inl row_28))]) hP hD hS hA rfl rfl (by decide) (by decide) (fc_runS (isC := []) (As := [.int (row_21 (17 : Int32).toNatClampNeg), .int 3]) (rest := [.ref rw]) hx hb hml hown hts hK hE hP hD hS hA rfl (by decide) (c_X8_waitAt l D tc (row_21 (17 : Int32).toNatClampNeg) 3 _ ) (cwS 2 hts gX8_shootIn_X8_waitAt rfl rfl rfl hd_X8_waitAt ⟨Nat.le_of_ble_eq_true rfl, Nat.le_of_ble_eq_true rfl⟩) rfl hl.1 rfl (Nat.le_of_ble_eq_true rfl) dX8_shootIn_112 ⟨Nat.le_of_ble_eq_true rfl, Nat.le_of_ble_eq_true rfl⟩) (fun r_29 u_29 H locs hw_29 hP hD hS => ?_)
      try dsimp only at hw_29
      have hP : va_P D vwCl [(rw, .inl (tc 0, 357, .inl row_28))] H := hP
      have hD : va_D A [(rw, .inl (tc 0, 357, .inl row_28))] := hD
      have hf_29 := fx_waitAt hw_29 (by omega) (by decide)
      refine lv_aload_n hx hb dX8_shootIn_115 rfl (lv_at hl 3 rfl) ?_
      refine lv_iconst (v := 4) hx hb dX8_shootIn_116 (by decide) ?_
      refine va_iald (D := D) hx hb hK hP 0 0 rfl rfl (vp_in_iff.mpr (by decide)) dX8_shootIn_117 ?_
      refine va_iast (D := D) hx hb hK hP hD hS 0 0 rfl rfl (by have l_mm1m : ((-1) : Int32).toInt = (-1) := (by decide); have l_0 : (0 : Int32).toInt = 0 := (by decide); have l_1 : (1 : Int32).toInt = 1 := (by decide); have l_15 : (15 : Int32).toInt = 15 := (by decide); have l_17 : (17 : Int32).toInt = 17 := (by decide); have l_2 : (2 : Int32).toInt = 2 := (by decide); have l_3 : (3 : Int32).toInt = 3 := (by decide); have l_4 : (4 : Int32).toInt = 4 := (by decide); have qc_1 := c_1; (try simp only [fc_le, fc_lt, fc_eq] at qc_1); have qc_22 := c_22; (try simp only [fc_le, fc_lt, fc_eq] at qc_22); rw [vp_in_iff]; omega) dX8_shootIn_118 (fun H locs hP hD hS => ?_)
      have hP : va_P D vwCl [(rw, .inl (tc 0, 357, .inl (upd row_28 r_29.toNatClampNeg (row_28 (4 : Int32).toNatClampNeg))))] H := hP
      have hD : va_D A [(rw, .inl (tc 0, 357, .inl (upd row_28 r_29.toNatClampNeg (row_28 (4 : Int32).toNatClampNeg))))] := hD
      obtain ⟨row_30, hw_30⟩ : ∃ z, (upd row_28 r_29.toNatClampNeg (row_28 (4 : Int32).toNatClampNeg)) = z := ⟨_, rfl⟩
      rw [hw_30] at hP hD
      have hv17_30 : (row_30 (17 : Int32).toNatClampNeg).toInt = (row_28 (17 : Int32).toNatClampNeg).toInt := by rw [← hw_30, pk_un (by have l_mm1m : ((-1) : Int32).toInt = (-1) := (by decide); have l_0 : (0 : Int32).toInt = 0 := (by decide); have l_1 : (1 : Int32).toInt = 1 := (by decide); have l_15 : (15 : Int32).toInt = 15 := (by decide); have l_17 : (17 : Int32).toInt = 17 := (by decide); have l_2 : (2 : Int32).toInt = 2 := (by decide); have l_3 : (3 : Int32).toInt = 3 := (by decide); have l_4 : (4 : Int32).toInt = 4 := (by decide); have qc_1 := c_1; (try simp only [fc_le, fc_lt, fc_eq] at qc_1); have qc_22 := c_22; (try simp only [fc_le, fc_lt, fc_eq] at qc_22); simp only [fc_cl]; omega)]
      refine lv_aload_n hx hb dX8_shootIn_119 rfl (lv_at hl 3 rfl) ?_
      refine lv_bipush (v := 17) hx hb dX8_shootIn_120 (by decide) ?_
      refine lv_dup2_11 hx hb dX8_shootIn_122 rfl rfl ?_
      refine va_iald (D := D) hx hb hK hP 0 0 rfl rfl (vp_in_iff.mpr (by decide)) dX8_shootIn_123 ?_
      refine lv_iconst (v := 1) hx hb dX8_shootIn_124 (by decide) ?_
      refine lv_iadd hx hb dX8_shootIn_125 ?_
      refine va_iast (D := D) hx hb hK hP hD hS 0 0 rfl rfl (vp_in_iff.mpr (by decide)) dX8_shootIn_126 (fun H locs hP hD hS => ?_)
      have hP : va_P D vwCl [(rw, .inl (tc 0, 357, .inl (upd row_30 (17 : Int32).toNatClampNeg ((row_30 (17 : Int32).toNatClampNeg) + 1))))] H := hP
      have hD : va_D A [(rw, .inl (tc 0, 357, .inl (upd row_30 (17 : Int32).toNatClampNeg ((row_30 (17 : Int32).toNatClampNeg) + 1))))] := hD
      obtain ⟨row_31, hw_31⟩ : ∃ z, (upd row_30 (17 : Int32).toNatClampNeg ((row_30 (17 : Int32).toNatClampNeg) + 1)) = z := ⟨_, rfl⟩
      rw [hw_31] at hP hD
      have hv17_31 : (row_31 (17 : Int32).toNatClampNeg).toInt = (((row_30 (17 : Int32).toNatClampNeg) + 1)).toInt := by rw [← hw_31, pk_us]
      have av31_1 := fc_addk (x := (row_30 (17 : Int32).toNatClampNeg)) (k := 1) (n := 1) (by decide) (by omega) (by omega)
      refine lv_iload_n hx hb dX8_shootIn_127 rfl (lv_at hl 2 rfl) ?_
      exact hret _ _ (row (5 : Int32).toNatClampNeg) row_31 _ _ (by rw [mX8_shootIn]; (try dsimp only); rw [if_pos c_1]; rw [hw_19]; (try dsimp only); rw [hw_20]; (try dsimp only); rw [hw_21]; (try dsimp only); rw [if_neg c_22]; rw [hw_23]; (try dsimp only); rw [hw_24]; (try dsimp only); rw [hw_25]; (try dsimp only); rw [hw_26]; (try dsimp only); rw [hw_27]; (try dsimp only); rw [hw_28]; (try dsimp only); rw [hw_29]; (try dsimp only); rw [hw_30]; (try dsimp only); rw [hw_31]; (try dsimp only); (first | done | rfl)) (hP.sub [0] rfl) (hD.sub [0] (by decide) rfl) hS dX8_shootIn_128
    · refine lv_aload_n hx hb dX8_shootIn_57 rfl (lv_at hl 2 rfl) ?_
      refine lv_bipush (v := 7) hx hb dX8_shootIn_58 (by decide) ?_
      refine lv_dup2_11 hx hb dX8_shootIn_60 rfl rfl ?_
      refine va_iald (D := D) hx hb hK hP 0 0 rfl rfl (vp_in_iff.mpr (by decide)) dX8_shootIn_61 ?_
      refine lv_iconst (v := 1) hx hb dX8_shootIn_62 (by decide) ?_
      refine lv_iadd hx hb dX8_shootIn_63 ?_
      refine va_iast (D := D) hx hb hK hP hD hS 0 0 rfl rfl (vp_in_iff.mpr (by decide)) dX8_shootIn_64 (fun H locs hP hD hS => ?_)
      have hP : va_P D vwCl [(rw, .inl (tc 0, 357, .inl (upd row_21 (7 : Int32).toNatClampNeg ((row_21 (7 : Int32).toNatClampNeg) + 1))))] H := hP
      have hD : va_D A [(rw, .inl (tc 0, 357, .inl (upd row_21 (7 : Int32).toNatClampNeg ((row_21 (7 : Int32).toNatClampNeg) + 1))))] := hD
      obtain ⟨row_32, hw_32⟩ : ∃ z, (upd row_21 (7 : Int32).toNatClampNeg ((row_21 (7 : Int32).toNatClampNeg) + 1)) = z := ⟨_, rfl⟩
      rw [hw_32] at hP hD
      have hv17_32 : (row_32 (17 : Int32).toNatClampNeg).toInt = (row_21 (17 : Int32).toNatClampNeg).toInt := by rw [← hw_32, pk_un (by decide)]
      refine lv_aload_n hx hb dX8_shootIn_65 rfl (lv_at hl 2 rfl) ?_
      refine lv_bipush (v := 14) hx hb dX8_shootIn_66 (by decide) ?_
      refine lv_dup2_11 hx hb dX8_shootIn_68 rfl rfl ?_
      refine va_iald (D := D) hx hb hK hP 0 0 rfl rfl (vp_in_iff.mpr (by decide)) dX8_shootIn_69 ?_
      refine lv_iconst (v := 1) hx hb dX8_shootIn_70 (by decide) ?_
      refine lv_iadd hx hb dX8_shootIn_71 ?_
      refine va_iast (D := D) hx hb hK hP hD hS 0 0 rfl rfl (vp_in_iff.mpr (by decide)) dX8_shootIn_72 (fun H locs hP hD hS => ?_)
      have hP : va_P D vwCl [(rw, .inl (tc 0, 357, .inl (upd row_32 (14 : Int32).toNatClampNeg ((row_32 (14 : Int32).toNatClampNeg) + 1))))] H := hP
      have hD : va_D A [(rw, .inl (tc 0, 357, .inl (upd row_32 (14 : Int32).toNatClampNeg ((row_32 (14 : Int32).toNatClampNeg) + 1))))] := hD
      obtain ⟨row_33, hw_33⟩ : ∃ z, (upd row_32 (14 : Int32).toNatClampNeg ((row_32 (14 : Int32).toNatClampNeg) + 1)) = z := ⟨_, rfl⟩
      rw [hw_33] at hP hD
      have hv17_33 : (row_33 (17 : Int32).toNatClampNeg).toInt = (row_32 (17 : Int32).toNatClampNeg).toInt := by rw [← hw_33, pk_un (by decide)]
      refine lv_iconst (v := (-1)) hx hb dX8_shootIn_73 (by decide) ?_
      exact hret _ _ (-1) row_33 _ _ (by rw [mX8_shootIn]; (try dsimp only); rw [if_pos c_1]; rw [hw_19]; (try dsimp only); rw [hw_20]; (try dsimp only); rw [hw_21]; (try dsimp only); rw [if_pos c_22]; rw [hw_32]; (try dsimp only); rw [hw_33]; (try dsimp only); (first | done | rfl)) (hP.sub [0] rfl) (hD.sub [0] (by decide) rfl) hS dX8_shootIn_74
noncomputable def mX8_endRound_S13 (ih_13 : Int32 → (Nat → Int32) → Nat → Int32) (x1h13 : Int32) (rowh13 : Nat → Int32) : Nat → Int32 :=
  if x1h13 ≤ 2 then
    let row_8 := (upd rowh13 (327 : Int32).toNatClampNeg (rowh13 (9 : Int32).toNatClampNeg))
    if (row_8 (1 : Int32).toNatClampNeg) ≤ (row_8 (13 : Int32).toNatClampNeg) then
      if (row_8 (14 : Int32).toNatClampNeg) ≤ 0 then
        if (row_8 (17 : Int32).toNatClampNeg) ≤ 0 then
          let row_12 := (upd row_8 (328 : Int32).toNatClampNeg 4)
          let row_13 := (upd row_12 (329 : Int32).toNatClampNeg (row_12 (12 : Int32).toNatClampNeg))
          if 10 ≤ (row_13 (18 : Int32).toNatClampNeg) then
            let row_15 := (upd row_13 (18 : Int32).toNatClampNeg ((row_13 (18 : Int32).toNatClampNeg) + 0))
            let row_16 := (upd row_15 (10 : Int32).toNatClampNeg ((row_15 (10 : Int32).toNatClampNeg) + 1))
            let row_17 := (upd row_16 (9 : Int32).toNatClampNeg ((row_16 (9 : Int32).toNatClampNeg) + 1))
            let row_18 := (upd row_17 (11 : Int32).toNatClampNeg 0)
            let row_19 := (upd row_18 (12 : Int32).toNatClampNeg 0)
            let row_20 := (upd row_19 (13 : Int32).toNatClampNeg 0)
            let row_21 := (upd row_20 (14 : Int32).toNatClampNeg 0)
            row_21
          else
            let row_22 := (upd row_13 (18 : Int32).toNatClampNeg ((row_13 (18 : Int32).toNatClampNeg) + 1))
            let row_23 := (upd row_22 (10 : Int32).toNatClampNeg ((row_22 (10 : Int32).toNatClampNeg) + 1))
            let row_24 := (upd row_23 (9 : Int32).toNatClampNeg ((row_23 (9 : Int32).toNatClampNeg) + 1))
            let row_25 := (upd row_24 (11 : Int32).toNatClampNeg 0)
            let row_26 := (upd row_25 (12 : Int32).toNatClampNeg 0)
            let row_27 := (upd row_26 (13 : Int32).toNatClampNeg 0)
            let row_28 := (upd row_27 (14 : Int32).toNatClampNeg 0)
            row_28
        else
          let row_29 := (upd row_8 (328 : Int32).toNatClampNeg 3)
          let row_30 := (upd row_29 (329 : Int32).toNatClampNeg (row_29 (12 : Int32).toNatClampNeg))
          if 10 ≤ (row_30 (18 : Int32).toNatClampNeg) then
            let row_32 := (upd row_30 (18 : Int32).toNatClampNeg ((row_30 (18 : Int32).toNatClampNeg) + 0))
            let row_33 := (upd row_32 (10 : Int32).toNatClampNeg ((row_32 (10 : Int32).toNatClampNeg) + 1))
            let row_34 := (upd row_33 (9 : Int32).toNatClampNeg ((row_33 (9 : Int32).toNatClampNeg) + 1))
            let row_35 := (upd row_34 (11 : Int32).toNatClampNeg 0)
            let row_36 := (upd row_35 (12 : Int32).toNatClampNeg 0)
            let row_37 := (upd row_36 (13 : Int32).toNatClampNeg 0)
            let row_38 := (upd row_37 (14 : Int32).toNatClampNeg 0)
            row_38
          else
            let row_39 := (upd row_30 (18 : Int32).toNatClampNeg ((row_30 (18 : Int32).toNatClampNeg) + 1))
            let row_40 := (upd row_39 (10 : Int32).toNatClampNeg ((row_39 (10 : Int32).toNatClampNeg) + 1))
            let row_41 := (upd row_40 (9 : Int32).toNatClampNeg ((row_40 (9 : Int32).toNatClampNeg) + 1))
            let row_42 := (upd row_41 (11 : Int32).toNatClampNeg 0)
            let row_43 := (upd row_42 (12 : Int32).toNatClampNeg 0)
            let row_44 := (upd row_43 (13 : Int32).toNatClampNeg 0)
            let row_45 := (upd row_44 (14 : Int32).toNatClampNeg 0)
            row_45
      else
        let row_46 := (upd row_8 (328 : Int32).toNatClampNeg 2)
        let row_47 := (upd row_46 (329 : Int32).toNatClampNeg (row_46 (12 : Int32).toNatClampNeg))
        if 10 ≤ (row_47 (18 : Int32).toNatClampNeg) then
          let row_49 := (upd row_47 (18 : Int32).toNatClampNeg ((row_47 (18 : Int32).toNatClampNeg) + 0))
          let row_50 := (upd row_49 (10 : Int32).toNatClampNeg ((row_49 (10 : Int32).toNatClampNeg) + 1))
          let row_51 := (upd row_50 (9 : Int32).toNatClampNeg ((row_50 (9 : Int32).toNatClampNeg) + 1))
          let row_52 := (upd row_51 (11 : Int32).toNatClampNeg 0)
          let row_53 := (upd row_52 (12 : Int32).toNatClampNeg 0)
          let row_54 := (upd row_53 (13 : Int32).toNatClampNeg 0)
          let row_55 := (upd row_54 (14 : Int32).toNatClampNeg 0)
          row_55
        else
          let row_56 := (upd row_47 (18 : Int32).toNatClampNeg ((row_47 (18 : Int32).toNatClampNeg) + 1))
          let row_57 := (upd row_56 (10 : Int32).toNatClampNeg ((row_56 (10 : Int32).toNatClampNeg) + 1))
          let row_58 := (upd row_57 (9 : Int32).toNatClampNeg ((row_57 (9 : Int32).toNatClampNeg) + 1))
          let row_59 := (upd row_58 (11 : Int32).toNatClampNeg 0)
          let row_60 := (upd row_59 (12 : Int32).toNatClampNeg 0)
          let row_61 := (upd row_60 (13 : Int32).toNatClampNeg 0)
          let row_62 := (upd row_61 (14 : Int32).toNatClampNeg 0)
          row_62
    else
      let row_63 := (upd row_8 (328 : Int32).toNatClampNeg 1)
      let row_64 := (upd row_63 (329 : Int32).toNatClampNeg (row_63 (12 : Int32).toNatClampNeg))
      if 10 ≤ (row_64 (18 : Int32).toNatClampNeg) then
        let row_66 := (upd row_64 (18 : Int32).toNatClampNeg ((row_64 (18 : Int32).toNatClampNeg) + 0))
        let row_67 := (upd row_66 (10 : Int32).toNatClampNeg ((row_66 (10 : Int32).toNatClampNeg) + 1))
        let row_68 := (upd row_67 (9 : Int32).toNatClampNeg ((row_67 (9 : Int32).toNatClampNeg) + 1))
        let row_69 := (upd row_68 (11 : Int32).toNatClampNeg 0)
        let row_70 := (upd row_69 (12 : Int32).toNatClampNeg 0)
        let row_71 := (upd row_70 (13 : Int32).toNatClampNeg 0)
        let row_72 := (upd row_71 (14 : Int32).toNatClampNeg 0)
        row_72
      else
        let row_73 := (upd row_64 (18 : Int32).toNatClampNeg ((row_64 (18 : Int32).toNatClampNeg) + 1))
        let row_74 := (upd row_73 (10 : Int32).toNatClampNeg ((row_73 (10 : Int32).toNatClampNeg) + 1))
        let row_75 := (upd row_74 (9 : Int32).toNatClampNeg ((row_74 (9 : Int32).toNatClampNeg) + 1))
        let row_76 := (upd row_75 (11 : Int32).toNatClampNeg 0)
        let row_77 := (upd row_76 (12 : Int32).toNatClampNeg 0)
        let row_78 := (upd row_77 (13 : Int32).toNatClampNeg 0)
        let row_79 := (upd row_78 (14 : Int32).toNatClampNeg 0)
        row_79
  else
    let row_80 := (upd rowh13 ((327 + x1h13) : Int32).toNatClampNeg (rowh13 (((327 + x1h13) - 3) : Int32).toNatClampNeg))
    ih_13 (x1h13 + (-1)) row_80
noncomputable def mX8_endRound_L13 (k : Nat) : Int32 → (Nat → Int32) → Nat → Int32 := Nat.rec (motive := fun _ => Int32 → (Nat → Int32) → Nat → Int32) (fun x1h13 rowh13 => rowh13) (fun _ ih => mX8_endRound_S13  ih) k
theorem mX8_endRound_L13_z (x1h13 : Int32) (rowh13 : Nat → Int32) : mX8_endRound_L13  0 x1h13 rowh13 = rowh13 := rfl
theorem mX8_endRound_L13_s (k : Nat) (x1h13 : Int32) (rowh13 : Nat → Int32) : mX8_endRound_L13  (k + 1) x1h13 rowh13 = mX8_endRound_S13  (mX8_endRound_L13  k) x1h13 rowh13 := rfl
noncomputable def mX8_endRound (row : Nat → Int32) : Nat → Int32 :=
  if (row (1 : Int32).toNatClampNeg) ≤ (row (12 : Int32).toNatClampNeg) then
    let row_2 := (upd row (9 : Int32).toNatClampNeg ((row (9 : Int32).toNatClampNeg) + 1))
    let row_3 := (upd row_2 (11 : Int32).toNatClampNeg 0)
    let row_4 := (upd row_3 (12 : Int32).toNatClampNeg 0)
    let row_5 := (upd row_4 (13 : Int32).toNatClampNeg 0)
    let row_6 := (upd row_5 (14 : Int32).toNatClampNeg 0)
    row_6
  else
    mX8_endRound_L13 30 29 row
abbrev rmX8_endRound : Room := { frames := 0, cells := 0, slots := 0, locals := 0 }
set_option maxHeartbeats 4000000 in
set_option maxRecDepth 100000 in
theorem c_X8_endRound (l : Launch) (D : va_G) (tc : Nat → ClassId) (rw : Nat) (row : Nat → Int32) (sz : Nat) : Met l yX8_endRound wsX8_endRound rmX8_endRound (va_Pc [.ref rw] (fcB D tc [(rw, .inl (tc 0, 357, .inl row))] sz)) (va_Qv (fun (u : Nat → Int32) => mX8_endRound row = u) (fun u t => fcO D (va_A [(rw, .inl (tc 0, 357, .inl row))] sz) ((fun (u : Nat → Int32) => [(rw, .inl (tc 0, 357, .inl u))]) u) t) (va_A [(rw, .inl (tc 0, 357, .inl row))] sz)) 0 0 (va_A [(rw, .inl (tc 0, 357, .inl row))] sz) := by
  refine fc_ofWv (own := RX8) (cc := cX8_endRound) (maxL := 2) (W1 := (fun (u : Nat → Int32) => [(rw, .inl (tc 0, 357, .inl u))])) rfl (by decide) rfl (Nat.le_of_ble_eq_true rfl) ?_
  intro p e s m args below meth c A Q hx hb hml hown hts hK hE hP hD hS hA hin hret ls hl
  have hl : lv_has ls 2 [(0, .ref rw)] := hl
  refine lv_aload_n hx hb dX8_endRound_0 rfl (lv_at hl 0 rfl) ?_
  refine lv_bipush (v := 12) hx hb dX8_endRound_1 (by decide) ?_
  refine va_iald (D := D) hx hb hK hP 0 0 rfl rfl (vp_in_iff.mpr (by decide)) dX8_endRound_3 ?_
  refine lv_aload_n hx hb dX8_endRound_4 rfl (lv_at hl 0 rfl) ?_
  refine lv_iconst (v := 1) hx hb dX8_endRound_5 (by decide) ?_
  refine va_iald (D := D) hx hb hK hP 0 0 rfl rfl (vp_in_iff.mpr (by decide)) dX8_endRound_6 ?_
  refine lv_icmp_ge (tgt := 129) hx hb dX8_endRound_7 (by decide) (fun c_1 => ?_) (fun c_1 => ?_)
  · refine lv_aload_n hx hb dX8_endRound_129 rfl (lv_at hl 0 rfl) ?_
    refine lv_bipush (v := 9) hx hb dX8_endRound_130 (by decide) ?_
    refine lv_dup2_11 hx hb dX8_endRound_132 rfl rfl ?_
    refine va_iald (D := D) hx hb hK hP 0 0 rfl rfl (vp_in_iff.mpr (by decide)) dX8_endRound_133 ?_
    refine lv_iconst (v := 1) hx hb dX8_endRound_134 (by decide) ?_
    refine lv_iadd hx hb dX8_endRound_135 ?_
    refine va_iast (D := D) hx hb hK hP hD hS 0 0 rfl rfl (vp_in_iff.mpr (by decide)) dX8_endRound_136 (fun H locs hP hD hS => ?_)
    have hP : va_P D vwCl [(rw, .inl (tc 0, 357, .inl (upd row (9 : Int32).toNatClampNeg ((row (9 : Int32).toNatClampNeg) + 1))))] H := hP
    have hD : va_D A [(rw, .inl (tc 0, 357, .inl (upd row (9 : Int32).toNatClampNeg ((row (9 : Int32).toNatClampNeg) + 1))))] := hD
    obtain ⟨row_2, hw_2⟩ : ∃ z, (upd row (9 : Int32).toNatClampNeg ((row (9 : Int32).toNatClampNeg) + 1)) = z := ⟨_, rfl⟩
    rw [hw_2] at hP hD
    refine lv_aload_n hx hb dX8_endRound_137 rfl (lv_at hl 0 rfl) ?_
    refine lv_bipush (v := 11) hx hb dX8_endRound_138 (by decide) ?_
    refine lv_iconst (v := 0) hx hb dX8_endRound_140 (by decide) ?_
    refine va_iast (D := D) hx hb hK hP hD hS 0 0 rfl rfl (vp_in_iff.mpr (by decide)) dX8_endRound_141 (fun H locs hP hD hS => ?_)
    have hP : va_P D vwCl [(rw, .inl (tc 0, 357, .inl (upd row_2 (11 : Int32).toNatClampNeg 0)))] H := hP
    have hD : va_D A [(rw, .inl (tc 0, 357, .inl (upd row_2 (11 : Int32).toNatClampNeg 0)))] := hD
    obtain ⟨row_3, hw_3⟩ : ∃ z, (upd row_2 (11 : Int32).toNatClampNeg 0) = z := ⟨_, rfl⟩
    rw [hw_3] at hP hD
    refine lv_aload_n hx hb dX8_endRound_142 rfl (lv_at hl 0 rfl) ?_
    refine lv_bipush (v := 12) hx hb dX8_endRound_143 (by decide) ?_
    refine lv_iconst (v := 0) hx hb dX8_endRound_145 (by decide) ?_
    refine va_iast (D := D) hx hb hK hP hD hS 0 0 rfl rfl (vp_in_iff.mpr (by decide)) dX8_endRound_146 (fun H locs hP hD hS => ?_)
    have hP : va_P D vwCl [(rw, .inl (tc 0, 357, .inl (upd row_3 (12 : Int32).toNatClampNeg 0)))] H := hP
    have hD : va_D A [(rw, .inl (tc 0, 357, .inl (upd row_3 (12 : Int32).toNatClampNeg 0)))] := hD
    obtain ⟨row_4, hw_4⟩ : ∃ z, (upd row_3 (12 : Int32).toNatClampNeg 0) = z := ⟨_, rfl⟩
    rw [hw_4] at hP hD
    refine lv_aload_n hx hb dX8_endRound_147 rfl (lv_at hl 0 rfl) ?_
    refine lv_bipush (v := 13) hx hb dX8_endRound_148 (by decide) ?_
    refine lv_iconst (v := 0) hx hb dX8_endRound_150 (by decide) ?_
    refine va_iast (D := D) hx hb hK hP hD hS 0 0 rfl rfl (vp_in_iff.mpr (by decide)) dX8_endRound_151 (fun H locs hP hD hS => ?_)
    have hP : va_P D vwCl [(rw, .inl (tc 0, 357, .inl (upd row_4 (13 : Int32).toNatClampNeg 0)))] H := hP
    have hD : va_D A [(rw, .inl (tc 0, 357, .inl (upd row_4 (13 : Int32).toNatClampNeg 0)))] := hD
    obtain ⟨row_5, hw_5⟩ : ∃ z, (upd row_4 (13 : Int32).toNatClampNeg 0) = z := ⟨_, rfl⟩
    rw [hw_5] at hP hD
    refine lv_aload_n hx hb dX8_endRound_152 rfl (lv_at hl 0 rfl) ?_
    refine lv_bipush (v := 14) hx hb dX8_endRound_153 (by decide) ?_
    refine lv_iconst (v := 0) hx hb dX8_endRound_155 (by decide) ?_
    refine va_iast (D := D) hx hb hK hP hD hS 0 0 rfl rfl (vp_in_iff.mpr (by decide)) dX8_endRound_156 (fun H locs hP hD hS => ?_)
    have hP : va_P D vwCl [(rw, .inl (tc 0, 357, .inl (upd row_5 (14 : Int32).toNatClampNeg 0)))] H := hP
    have hD : va_D A [(rw, .inl (tc 0, 357, .inl (upd row_5 (14 : Int32).toNatClampNeg 0)))] := hD
    obtain ⟨row_6, hw_6⟩ : ∃ z, (upd row_5 (14 : Int32).toNatClampNeg 0) = z := ⟨_, rfl⟩
    rw [hw_6] at hP hD
    exact hret _ _ row_6 _ _ (by rw [mX8_endRound]; (try dsimp only); rw [if_pos c_1]; rw [hw_2]; (try dsimp only); rw [hw_3]; (try dsimp only); rw [hw_4]; (try dsimp only); rw [hw_5]; (try dsimp only); rw [hw_6]; (try dsimp only); (first | done | rfl)) (hP.sub [0] rfl) (hD.sub [0] (by decide) rfl) hS dX8_endRound_157
  · refine lv_bipush (v := 29) hx hb dX8_endRound_10 (by decide) ?_
    refine lv_istore_n (lv' := [(1, .int 29), (0, .ref rw)]) hx hb dX8_endRound_12 rfl hl (by decide) rfl (fun ls hl => ?_)
    have loop_13 : ∀ (k_13 : Nat) (i_13 : Nat) (x1h13 : Int32) (rowh13 : Nat → Int32) (hb_13 : x1h13 = nI i_13) (hm_13 : i_13 ≤ 29 ∧ i_13 < k_13) (hI_13 : mX8_endRound row = mX8_endRound_L13 k_13 x1h13 rowh13) (H : Heap) (locs : List Loc), va_P D vwCl [(rw, .inl (tc 0, 357, .inl rowh13))] H → va_D A [(rw, .inl (tc 0, 357, .inl rowh13))] → va_S A s.heap H locs → ∀ ls : Array Slot, lv_has ls 2 [(1, .int x1h13), (0, .ref rw)] → W p l e rmX8_endRound s m args below meth c H locs 0 0 Q (F0 m 13 ls []) := by
      intro k_13
      induction k_13 with
      | zero =>
        intro i_13 x1h13 rowh13 hb_13 hm_13 hI_13 H locs hP hD hS ls hl
        exact absurd hm_13 (by omega)
      | succ k_13 ih_13 =>
        intro i_13 x1h13 rowh13 hb_13 hm_13 hI_13 H locs hP hD hS ls hl
        have zz_13 := fc_nI (n := i_13) (by omega)
        rw [← hb_13] at zz_13
        refine lv_iload_n hx hb dX8_endRound_13 rfl (lv_at hl 0 rfl) ?_
        refine lv_iconst (v := 2) hx hb dX8_endRound_14 (by decide) ?_
        refine lv_icmp_le (tgt := 40) hx hb dX8_endRound_15 (by decide) (fun c_7 => ?_) (fun c_7 => ?_)
        · refine lv_aload_n hx hb dX8_endRound_40 rfl (lv_at hl 1 rfl) ?_
          refine lv_sipush (v := 327) hx hb dX8_endRound_41 (by decide) ?_
          refine lv_aload_n hx hb dX8_endRound_44 rfl (lv_at hl 1 rfl) ?_
          refine lv_bipush (v := 9) hx hb dX8_endRound_45 (by decide) ?_
          refine va_iald (D := D) hx hb hK hP 0 0 rfl rfl (vp_in_iff.mpr (by decide)) dX8_endRound_47 ?_
          refine va_iast (D := D) hx hb hK hP hD hS 0 0 rfl rfl (vp_in_iff.mpr (by decide)) dX8_endRound_48 (fun H locs hP hD hS => ?_)
          have hP : va_P D vwCl [(rw, .inl (tc 0, 357, .inl (upd rowh13 (327 : Int32).toNatClampNeg (rowh13 (9 : Int32).toNatClampNeg))))] H := hP
          have hD : va_D A [(rw, .inl (tc 0, 357, .inl (upd rowh13 (327 : Int32).toNatClampNeg (rowh13 (9 : Int32).toNatClampNeg))))] := hD
          obtain ⟨row_8, hw_8⟩ : ∃ z, (upd rowh13 (327 : Int32).toNatClampNeg (rowh13 (9 : Int32).toNatClampNeg)) = z := ⟨_, rfl⟩
          rw [hw_8] at hP hD
          refine lv_aload_n hx hb dX8_endRound_49 rfl (lv_at hl 1 rfl) ?_
          refine lv_sipush (v := 328) hx hb dX8_endRound_50 (by decide) ?_
          refine lv_aload_n hx hb dX8_endRound_53 rfl (lv_at hl 1 rfl) ?_
          refine lv_bipush (v := 13) hx hb dX8_endRound_54 (by decide) ?_
          refine va_iald (D := D) hx hb hK hP 0 0 rfl rfl (vp_in_iff.mpr (by decide)) dX8_endRound_56 ?_
          refine lv_aload_n hx hb dX8_endRound_57 rfl (lv_at hl 1 rfl) ?_
          refine lv_iconst (v := 1) hx hb dX8_endRound_58 (by decide) ?_
          refine va_iald (D := D) hx hb hK hP 0 0 rfl rfl (vp_in_iff.mpr (by decide)) dX8_endRound_59 ?_
          refine lv_icmp_ge (tgt := 67) hx hb dX8_endRound_60 (by decide) (fun c_9 => ?_) (fun c_9 => ?_)
          · refine lv_aload_n hx hb dX8_endRound_67 rfl (lv_at hl 1 rfl) ?_
            refine lv_bipush (v := 14) hx hb dX8_endRound_68 (by decide) ?_
            refine va_iald (D := D) hx hb hK hP 0 0 rfl rfl (vp_in_iff.mpr (by decide)) dX8_endRound_70 ?_
            refine lv_if_le (tgt := 78) hx hb dX8_endRound_71 (by decide) (fun c_10 => ?_) (fun c_10 => ?_)
            · refine lv_aload_n hx hb dX8_endRound_78 rfl (lv_at hl 1 rfl) ?_
              refine lv_bipush (v := 17) hx hb dX8_endRound_79 (by decide) ?_
              refine va_iald (D := D) hx hb hK hP 0 0 rfl rfl (vp_in_iff.mpr (by decide)) dX8_endRound_81 ?_
              refine lv_if_le (tgt := 89) hx hb dX8_endRound_82 (by decide) (fun c_11 => ?_) (fun c_11 => ?_)
              · refine lv_iconst (v := 4) hx hb dX8_endRound_89 (by decide) ?_
                refine va_iast (D := D) hx hb hK hP hD hS 0 0 rfl rfl (vp_in_iff.mpr (by decide)) dX8_endRound_90 (fun H locs hP hD hS => ?_)
                have hP : va_P D vwCl [(rw, .inl (tc 0, 357, .inl (upd row_8 (328 : Int32).toNatClampNeg 4)))] H := hP
                have hD : va_D A [(rw, .inl (tc 0, 357, .inl (upd row_8 (328 : Int32).toNatClampNeg 4)))] := hD
                obtain ⟨row_12, hw_12⟩ : ∃ z, (upd row_8 (328 : Int32).toNatClampNeg 4) = z := ⟨_, rfl⟩
                rw [hw_12] at hP hD
                refine lv_aload_n hx hb dX8_endRound_91 rfl (lv_at hl 1 rfl) ?_
                refine lv_sipush (v := 329) hx hb dX8_endRound_92 (by decide) ?_
                refine lv_aload_n hx hb dX8_endRound_95 rfl (lv_at hl 1 rfl) ?_
                refine lv_bipush (v := 12) hx hb dX8_endRound_96 (by decide) ?_
                refine va_iald (D := D) hx hb hK hP 0 0 rfl rfl (vp_in_iff.mpr (by decide)) dX8_endRound_98 ?_
                refine va_iast (D := D) hx hb hK hP hD hS 0 0 rfl rfl (vp_in_iff.mpr (by decide)) dX8_endRound_99 (fun H locs hP hD hS => ?_)
                have hP : va_P D vwCl [(rw, .inl (tc 0, 357, .inl (upd row_12 (329 : Int32).toNatClampNeg (row_12 (12 : Int32).toNatClampNeg))))] H := hP
                have hD : va_D A [(rw, .inl (tc 0, 357, .inl (upd row_12 (329 : Int32).toNatClampNeg (row_12 (12 : Int32).toNatClampNeg))))] := hD
                obtain ⟨row_13, hw_13⟩ : ∃ z, (upd row_12 (329 : Int32).toNatClampNeg (row_12 (12 : Int32).toNatClampNeg)) = z := ⟨_, rfl⟩
                rw [hw_13] at hP hD
                refine lv_aload_n hx hb dX8_endRound_100 rfl (lv_at hl 1 rfl) ?_
                refine lv_bipush (v := 18) hx hb dX8_endRound_101 (by decide) ?_
                refine lv_dup2_11 hx hb dX8_endRound_103 rfl rfl ?_
                refine va_iald (D := D) hx hb hK hP 0 0 rfl rfl (vp_in_iff.mpr (by decide)) dX8_endRound_104 ?_
                refine lv_aload_n hx hb dX8_endRound_105 rfl (lv_at hl 1 rfl) ?_
                refine lv_bipush (v := 18) hx hb dX8_endRound_106 (by decide) ?_
                refine va_iald (D := D) hx hb hK hP 0 0 rfl rfl (vp_in_iff.mpr (by decide)) dX8_endRound_108 ?_
                refine lv_bipush (v := 10) hx hb dX8_endRound_109 (by decide) ?_
                refine lv_icmp_ge (tgt := 118) hx hb dX8_endRound_111 (by decide) (fun c_14 => ?_) (fun c_14 => ?_)
                · refine lv_iconst (v := 0) hx hb dX8_endRound_118 (by decide) ?_
                  refine lv_iadd hx hb dX8_endRound_119 ?_
                  refine va_iast (D := D) hx hb hK hP hD hS 0 0 rfl rfl (vp_in_iff.mpr (by decide)) dX8_endRound_120 (fun H locs hP hD hS => ?_)
                  have hP : va_P D vwCl [(rw, .inl (tc 0, 357, .inl (upd row_13 (18 : Int32).toNatClampNeg ((row_13 (18 : Int32).toNatClampNeg) + 0))))] H := hP
                  have hD : va_D A [(rw, .inl (tc 0, 357, .inl (upd row_13 (18 : Int32).toNatClampNeg ((row_13 (18 : Int32).toNatClampNeg) + 0))))] := hD
                  obtain ⟨row_15, hw_15⟩ : ∃ z, (upd row_13 (18 : Int32).toNatClampNeg ((row_13 (18 : Int32).toNatClampNeg) + 0)) = z := ⟨_, rfl⟩
                  rw [hw_15] at hP hD
                  refine lv_aload_n hx hb dX8_endRound_121 rfl (lv_at hl 1 rfl) ?_
                  refine lv_bipush (v := 10) hx hb dX8_endRound_122 (by decide) ?_
                  refine lv_dup2_11 hx hb dX8_endRound_124 rfl rfl ?_
                  refine va_iald (D := D) hx hb hK hP 0 0 rfl rfl (vp_in_iff.mpr (by decide)) dX8_endRound_125 ?_
                  refine lv_iconst (v := 1) hx hb dX8_endRound_126 (by decide) ?_
                  refine lv_iadd hx hb dX8_endRound_127 ?_
                  refine va_iast (D := D) hx hb hK hP hD hS 0 0 rfl rfl (vp_in_iff.mpr (by decide)) dX8_endRound_128 (fun H locs hP hD hS => ?_)
                  have hP : va_P D vwCl [(rw, .inl (tc 0, 357, .inl (upd row_15 (10 : Int32).toNatClampNeg ((row_15 (10 : Int32).toNatClampNeg) + 1))))] H := hP
                  have hD : va_D A [(rw, .inl (tc 0, 357, .inl (upd row_15 (10 : Int32).toNatClampNeg ((row_15 (10 : Int32).toNatClampNeg) + 1))))] := hD
                  obtain ⟨row_16, hw_16⟩ : ∃ z, (upd row_15 (10 : Int32).toNatClampNeg ((row_15 (10 : Int32).toNatClampNeg) + 1)) = z := ⟨_, rfl⟩
                  rw [hw_16] at hP hD
                  refine lv_aload_n hx hb dX8_endRound_129 rfl (lv_at hl 1 rfl) ?_
                  refine lv_bipush (v := 9) hx hb dX8_endRound_130 (by decide) ?_
                  refine lv_dup2_11 hx hb dX8_endRound_132 rfl rfl ?_
                  refine va_iald (D := D) hx hb hK hP 0 0 rfl rfl (vp_in_iff.mpr (by decide)) dX8_endRound_133 ?_
                  refine lv_iconst (v := 1) hx hb dX8_endRound_134 (by decide) ?_
                  refine lv_iadd hx hb dX8_endRound_135 ?_
                  refine va_iast (D := D) hx hb hK hP hD hS 0 0 rfl rfl (vp_in_iff.mpr (by decide)) dX8_endRound_136 (fun H locs hP hD hS => ?_)
                  have hP : va_P D vwCl [(rw, .inl (tc 0, 357, .inl (upd row_16 (9 : Int32).toNatClampNeg ((row_16 (9 : Int32).toNatClampNeg) + 1))))] H := hP
                  have hD : va_D A [(rw, .inl (tc 0, 357, .inl (upd row_16 (9 : Int32).toNatClampNeg ((row_16 (9 : Int32).toNatClampNeg) + 1))))] := hD
                  obtain ⟨row_17, hw_17⟩ : ∃ z, (upd row_16 (9 : Int32).toNatClampNeg ((row_16 (9 : Int32).toNatClampNeg) + 1)) = z := ⟨_, rfl⟩
                  rw [hw_17] at hP hD
                  refine lv_aload_n hx hb dX8_endRound_137 rfl (lv_at hl 1 rfl) ?_
                  refine lv_bipush (v := 11) hx hb dX8_endRound_138 (by decide) ?_
                  refine lv_iconst (v := 0) hx hb dX8_endRound_140 (by decide) ?_
                  refine va_iast (D := D) hx hb hK hP hD hS 0 0 rfl rfl (vp_in_iff.mpr (by decide)) dX8_endRound_141 (fun H locs hP hD hS => ?_)
                  have hP : va_P D vwCl [(rw, .inl (tc 0, 357, .inl (upd row_17 (11 : Int32).toNatClampNeg 0)))] H := hP
                  have hD : va_D A [(rw, .inl (tc 0, 357, .inl (upd row_17 (11 : Int32).toNatClampNeg 0)))] := hD
                  obtain ⟨row_18, hw_18⟩ : ∃ z, (upd row_17 (11 : Int32).toNatClampNeg 0) = z := ⟨_, rfl⟩
                  rw [hw_18] at hP hD
                  refine lv_aload_n hx hb dX8_endRound_142 rfl (lv_at hl 1 rfl) ?_
                  refine lv_bipush (v := 12) hx hb dX8_endRound_143 (by decide) ?_
                  refine lv_iconst (v := 0) hx hb dX8_endRound_145 (by decide) ?_
                  refine va_iast (D := D) hx hb hK hP hD hS 0 0 rfl rfl (vp_in_iff.mpr (by decide)) dX8_endRound_146 (fun H locs hP hD hS => ?_)
                  have hP : va_P D vwCl [(rw, .inl (tc 0, 357, .inl (upd row_18 (12 : Int32).toNatClampNeg 0)))] H := hP
                  have hD : va_D A [(rw, .inl (tc 0, 357, .inl (upd row_18 (12 : Int32).toNatClampNeg 0)))] := hD
                  obtain ⟨row_19, hw_19⟩ : ∃ z, (upd row_18 (12 : Int32).toNatClampNeg 0) = z := ⟨_, rfl⟩
                  rw [hw_19] at hP hD
                  refine lv_aload_n hx hb dX8_endRound_147 rfl (lv_at hl 1 rfl) ?_
                  refine lv_bipush (v := 13) hx hb dX8_endRound_148 (by decide) ?_
                  refine lv_iconst (v := 0) hx hb dX8_endRound_150 (by decide) ?_
                  refine va_iast (D := D) hx hb hK hP hD hS 0 0 rfl rfl (vp_in_iff.mpr (by decide)) dX8_endRound_151 (fun H locs hP hD hS => ?_)
                  have hP : va_P D vwCl [(rw, .inl (tc 0, 357, .inl (upd row_19 (13 : Int32).toNatClampNeg 0)))] H := hP
                  have hD : va_D A [(rw, .inl (tc 0, 357, .inl (upd row_19 (13 : Int32).toNatClampNeg 0)))] := hD
                  obtain ⟨row_20, hw_20⟩ : ∃ z, (upd row_19 (13 : Int32).toNatClampNeg 0) = z := ⟨_, rfl⟩
                  rw [hw_20] at hP hD
                  refine lv_aload_n hx hb dX8_endRound_152 rfl (lv_at hl 1 rfl) ?_
                  refine lv_bipush (v := 14) hx hb dX8_endRound_153 (by decide) ?_
                  refine lv_iconst (v := 0) hx hb dX8_endRound_155 (by decide) ?_
                  refine va_iast (D := D) hx hb hK hP hD hS 0 0 rfl rfl (vp_in_iff.mpr (by decide)) dX8_endRound_156 (fun H locs hP hD hS => ?_)
                  have hP : va_P D vwCl [(rw, .inl (tc 0, 357, .inl (upd row_20 (14 : Int32).toNatClampNeg 0)))] H := hP
                  have hD : va_D A [(rw, .inl (tc 0, 357, .inl (upd row_20 (14 : Int32).toNatClampNeg 0)))] := hD
                  obtain ⟨row_21, hw_21⟩ : ∃ z, (upd row_20 (14 : Int32).toNatClampNeg 0) = z := ⟨_, rfl⟩
                  rw [hw_21] at hP hD
                  exact hret _ _ row_21 _ _ (by rw [hI_13, mX8_endRound_L13_s, mX8_endRound_S13]; (try dsimp only); rw [if_pos c_7]; rw [hw_8]; (try dsimp only); rw [if_pos c_9]; rw [if_pos c_10]; rw [if_pos c_11]; rw [hw_12]; (try dsimp only); rw [hw_13]; (try dsimp only); rw [if_pos c_14]; rw [hw_15]; (try dsimp only); rw [hw_16]; (try dsimp only); rw [hw_17]; (try dsimp only); rw [hw_18]; (try dsimp only); rw [hw_19]; (try dsimp only); rw [hw_20]; (try dsimp only); rw [hw_21]; (try dsimp only); (first | done | rfl)) (hP.sub [0] rfl) (hD.sub [0] (by decide) rfl) hS dX8_endRound_157
                · refine lv_iconst (v := 1) hx hb dX8_endRound_114 (by decide) ?_
                  refine lv_goto (tgt := 119) hx hb dX8_endRound_115 (by decide) ?_
                  refine lv_iadd hx hb dX8_endRound_119 ?_
                  refine va_iast (D := D) hx hb hK hP hD hS 0 0 rfl rfl (vp_in_iff.mpr (by decide)) dX8_endRound_120 (fun H locs hP hD hS => ?_)
                  have hP : va_P D vwCl [(rw, .inl (tc 0, 357, .inl (upd row_13 (18 : Int32).toNatClampNeg ((row_13 (18 : Int32).toNatClampNeg) + 1))))] H := hP
                  have hD : va_D A [(rw, .inl (tc 0, 357, .inl (upd row_13 (18 : Int32).toNatClampNeg ((row_13 (18 : Int32).toNatClampNeg) + 1))))] := hD
                  obtain ⟨row_22, hw_22⟩ : ∃ z, (upd row_13 (18 : Int32).toNatClampNeg ((row_13 (18 : Int32).toNatClampNeg) + 1)) = z := ⟨_, rfl⟩
                  rw [hw_22] at hP hD
                  refine lv_aload_n hx hb dX8_endRound_121 rfl (lv_at hl 1 rfl) ?_
                  refine lv_bipush (v := 10) hx hb dX8_endRound_122 (by decide) ?_
                  refine lv_dup2_11 hx hb dX8_endRound_124 rfl rfl ?_
                  refine va_iald (D := D) hx hb hK hP 0 0 rfl rfl (vp_in_iff.mpr (by decide)) dX8_endRound_125 ?_
                  refine lv_iconst (v := 1) hx hb dX8_endRound_126 (by decide) ?_
                  refine lv_iadd hx hb dX8_endRound_127 ?_
                  refine va_iast (D := D) hx hb hK hP hD hS 0 0 rfl rfl (vp_in_iff.mpr (by decide)) dX8_endRound_128 (fun H locs hP hD hS => ?_)
                  have hP : va_P D vwCl [(rw, .inl (tc 0, 357, .inl (upd row_22 (10 : Int32).toNatClampNeg ((row_22 (10 : Int32).toNatClampNeg) + 1))))] H := hP
                  have hD : va_D A [(rw, .inl (tc 0, 357, .inl (upd row_22 (10 : Int32).toNatClampNeg ((row_22 (10 : Int32).toNatClampNeg) + 1))))] := hD
                  obtain ⟨row_23, hw_23⟩ : ∃ z, (upd row_22 (10 : Int32).toNatClampNeg ((row_22 (10 : Int32).toNatClampNeg) + 1)) = z := ⟨_, rfl⟩
                  rw [hw_23] at hP hD
                  refine lv_aload_n hx hb dX8_endRound_129 rfl (lv_at hl 1 rfl) ?_
                  refine lv_bipush (v := 9) hx hb dX8_endRound_130 (by decide) ?_
                  refine lv_dup2_11 hx hb dX8_endRound_132 rfl rfl ?_
                  refine va_iald (D := D) hx hb hK hP 0 0 rfl rfl (vp_in_iff.mpr (by decide)) dX8_endRound_133 ?_
                  refine lv_iconst (v := 1) hx hb dX8_endRound_134 (by decide) ?_
                  refine lv_iadd hx hb dX8_endRound_135 ?_
                  refine va_iast (D := D) hx hb hK hP hD hS 0 0 rfl rfl (vp_in_iff.mpr (by decide)) dX8_endRound_136 (fun H locs hP hD hS => ?_)
                  have hP : va_P D vwCl [(rw, .inl (tc 0, 357, .inl (upd row_23 (9 : Int32).toNatClampNeg ((row_23 (9 : Int32).toNatClampNeg) + 1))))] H := hP
                  have hD : va_D A [(rw, .inl (tc 0, 357, .inl (upd row_23 (9 : Int32).toNatClampNeg ((row_23 (9 : Int32).toNatClampNeg) + 1))))] := hD
                  obtain ⟨row_24, hw_24⟩ : ∃ z, (upd row_23 (9 : Int32).toNatClampNeg ((row_23 (9 : Int32).toNatClampNeg) + 1)) = z := ⟨_, rfl⟩
                  rw [hw_24] at hP hD
                  refine lv_aload_n hx hb dX8_endRound_137 rfl (lv_at hl 1 rfl) ?_
                  refine lv_bipush (v := 11) hx hb dX8_endRound_138 (by decide) ?_
                  refine lv_iconst (v := 0) hx hb dX8_endRound_140 (by decide) ?_
                  refine va_iast (D := D) hx hb hK hP hD hS 0 0 rfl rfl (vp_in_iff.mpr (by decide)) dX8_endRound_141 (fun H locs hP hD hS => ?_)
                  have hP : va_P D vwCl [(rw, .inl (tc 0, 357, .inl (upd row_24 (11 : Int32).toNatClampNeg 0)))] H := hP
                  have hD : va_D A [(rw, .inl (tc 0, 357, .inl (upd row_24 (11 : Int32).toNatClampNeg 0)))] := hD
                  obtain ⟨row_25, hw_25⟩ : ∃ z, (upd row_24 (11 : Int32).toNatClampNeg 0) = z := ⟨_, rfl⟩
                  rw [hw_25] at hP hD
                  refine lv_aload_n hx hb dX8_endRound_142 rfl (lv_at hl 1 rfl) ?_
                  refine lv_bipush (v := 12) hx hb dX8_endRound_143 (by decide) ?_
                  refine lv_iconst (v := 0) hx hb dX8_endRound_145 (by decide) ?_
                  refine va_iast (D := D) hx hb hK hP hD hS 0 0 rfl rfl (vp_in_iff.mpr (by decide)) dX8_endRound_146 (fun H locs hP hD hS => ?_)
                  have hP : va_P D vwCl [(rw, .inl (tc 0, 357, .inl (upd row_25 (12 : Int32).toNatClampNeg 0)))] H := hP
                  have hD : va_D A [(rw, .inl (tc 0, 357, .inl (upd row_25 (12 : Int32).toNatClampNeg 0)))] := hD
                  obtain ⟨row_26, hw_26⟩ : ∃ z, (upd row_25 (12 : Int32).toNatClampNeg 0) = z := ⟨_, rfl⟩
                  rw [hw_26] at hP hD
                  refine lv_aload_n hx hb dX8_endRound_147 rfl (lv_at hl 1 rfl) ?_
                  refine lv_bipush (v := 13) hx hb dX8_endRound_148 (by decide) ?_
                  refine lv_iconst (v := 0) hx hb dX8_endRound_150 (by decide) ?_
                  refine va_iast (D := D) hx hb hK hP hD hS 0 0 rfl rfl (vp_in_iff.mpr (by decide)) dX8_endRound_151 (fun H locs hP hD hS => ?_)
                  have hP : va_P D vwCl [(rw, .inl (tc 0, 357, .inl (upd row_26 (13 : Int32).toNatClampNeg 0)))] H := hP
                  have hD : va_D A [(rw, .inl (tc 0, 357, .inl (upd row_26 (13 : Int32).toNatClampNeg 0)))] := hD
                  obtain ⟨row_27, hw_27⟩ : ∃ z, (upd row_26 (13 : Int32).toNatClampNeg 0) = z := ⟨_, rfl⟩
                  rw [hw_27] at hP hD
                  refine lv_aload_n hx hb dX8_endRound_152 rfl (lv_at hl 1 rfl) ?_
                  refine lv_bipush (v := 14) hx hb dX8_endRound_153 (by decide) ?_
                  refine lv_iconst (v := 0) hx hb dX8_endRound_155 (by decide) ?_
                  refine va_iast (D := D) hx hb hK hP hD hS 0 0 rfl rfl (vp_in_iff.mpr (by decide)) dX8_endRound_156 (fun H locs hP hD hS => ?_)
                  have hP : va_P D vwCl [(rw, .inl (tc 0, 357, .inl (upd row_27 (14 : Int32).toNatClampNeg 0)))] H := hP
                  have hD : va_D A [(rw, .inl (tc 0, 357, .inl (upd row_27 (14 : Int32).toNatClampNeg 0)))] := hD
                  obtain ⟨row_28, hw_28⟩ : ∃ z, (upd row_27 (14 : Int32).toNatClampNeg 0) = z := ⟨_, rfl⟩
                  rw [hw_28] at hP hD
                  exact hret _ _ row_28 _ _ (by rw [hI_13, mX8_endRound_L13_s, mX8_endRound_S13]; (try dsimp only); rw [if_pos c_7]; rw [hw_8]; (try dsimp only); rw [if_pos c_9]; rw [if_pos c_10]; rw [if_pos c_11]; rw [hw_12]; (try dsimp only); rw [hw_13]; (try dsimp only); rw [if_neg c_14]; rw [hw_22]; (try dsimp only); rw [hw_23]; (try dsimp only); rw [hw_24]; (try dsimp only); rw [hw_25]; (try dsimp only); rw [hw_26]; (try dsimp only); rw [hw_27]; (try dsimp only); rw [hw_28]; (try dsimp only); (first | done | rfl)) (hP.sub [0] rfl) (hD.sub [0] (by decide) rfl) hS dX8_endRound_157
              · refine lv_iconst (v := 3) hx hb dX8_endRound_85 (by decide) ?_
                refine lv_goto (tgt := 90) hx hb dX8_endRound_86 (by decide) ?_
                refine va_iast (D := D) hx hb hK hP hD hS 0 0 rfl rfl (vp_in_iff.mpr (by decide)) dX8_endRound_90 (fun H locs hP hD hS => ?_)
                have hP : va_P D vwCl [(rw, .inl (tc 0, 357, .inl (upd row_8 (328 : Int32).toNatClampNeg 3)))] H := hP
                have hD : va_D A [(rw, .inl (tc 0, 357, .inl (upd row_8 (328 : Int32).toNatClampNeg 3)))] := hD
                obtain ⟨row_29, hw_29⟩ : ∃ z, (upd row_8 (328 : Int32).toNatClampNeg 3) = z := ⟨_, rfl⟩
                rw [hw_29] at hP hD
                refine lv_aload_n hx hb dX8_endRound_91 rfl (lv_at hl 1 rfl) ?_
                refine lv_sipush (v := 329) hx hb dX8_endRound_92 (by decide) ?_
                refine lv_aload_n hx hb dX8_endRound_95 rfl (lv_at hl 1 rfl) ?_
                refine lv_bipush (v := 12) hx hb dX8_endRound_96 (by decide) ?_
                refine va_iald (D := D) hx hb hK hP 0 0 rfl rfl (vp_in_iff.mpr (by decide)) dX8_endRound_98 ?_
                refine va_iast (D := D) hx hb hK hP hD hS 0 0 rfl rfl (vp_in_iff.mpr (by decide)) dX8_endRound_99 (fun H locs hP hD hS => ?_)
                have hP : va_P D vwCl [(rw, .inl (tc 0, 357, .inl (upd row_29 (329 : Int32).toNatClampNeg (row_29 (12 : Int32).toNatClampNeg))))] H := hP
                have hD : va_D A [(rw, .inl (tc 0, 357, .inl (upd row_29 (329 : Int32).toNatClampNeg (row_29 (12 : Int32).toNatClampNeg))))] := hD
                obtain ⟨row_30, hw_30⟩ : ∃ z, (upd row_29 (329 : Int32).toNatClampNeg (row_29 (12 : Int32).toNatClampNeg)) = z := ⟨_, rfl⟩
                rw [hw_30] at hP hD
                refine lv_aload_n hx hb dX8_endRound_100 rfl (lv_at hl 1 rfl) ?_
                refine lv_bipush (v := 18) hx hb dX8_endRound_101 (by decide) ?_
                refine lv_dup2_11 hx hb dX8_endRound_103 rfl rfl ?_
                refine va_iald (D := D) hx hb hK hP 0 0 rfl rfl (vp_in_iff.mpr (by decide)) dX8_endRound_104 ?_
                refine lv_aload_n hx hb dX8_endRound_105 rfl (lv_at hl 1 rfl) ?_
                refine lv_bipush (v := 18) hx hb dX8_endRound_106 (by decide) ?_
                refine va_iald (D := D) hx hb hK hP 0 0 rfl rfl (vp_in_iff.mpr (by decide)) dX8_endRound_108 ?_
                refine lv_bipush (v := 10) hx hb dX8_endRound_109 (by decide) ?_
                refine lv_icmp_ge (tgt := 118) hx hb dX8_endRound_111 (by decide) (fun c_31 => ?_) (fun c_31 => ?_)
                · refine lv_iconst (v := 0) hx hb dX8_endRound_118 (by decide) ?_
                  refine lv_iadd hx hb dX8_endRound_119 ?_
                  refine va_iast (D := D) hx hb hK hP hD hS 0 0 rfl rfl (vp_in_iff.mpr (by decide)) dX8_endRound_120 (fun H locs hP hD hS => ?_)
                  have hP : va_P D vwCl [(rw, .inl (tc 0, 357, .inl (upd row_30 (18 : Int32).toNatClampNeg ((row_30 (18 : Int32).toNatClampNeg) + 0))))] H := hP
                  have hD : va_D A [(rw, .inl (tc 0, 357, .inl (upd row_30 (18 : Int32).toNatClampNeg ((row_30 (18 : Int32).toNatClampNeg) + 0))))] := hD
                  obtain ⟨row_32, hw_32⟩ : ∃ z, (upd row_30 (18 : Int32).toNatClampNeg ((row_30 (18 : Int32).toNatClampNeg) + 0)) = z := ⟨_, rfl⟩
                  rw [hw_32] at hP hD
                  refine lv_aload_n hx hb dX8_endRound_121 rfl (lv_at hl 1 rfl) ?_
                  refine lv_bipush (v := 10) hx hb dX8_endRound_122 (by decide) ?_
                  refine lv_dup2_11 hx hb dX8_endRound_124 rfl rfl ?_
                  refine va_iald (D := D) hx hb hK hP 0 0 rfl rfl (vp_in_iff.mpr (by decide)) dX8_endRound_125 ?_
                  refine lv_iconst (v := 1) hx hb dX8_endRound_126 (by decide) ?_
                  refine lv_iadd hx hb dX8_endRound_127 ?_
                  refine va_iast (D := D) hx hb hK hP hD hS 0 0 rfl rfl (vp_in_iff.mpr (by decide)) dX8_endRound_128 (fun H locs hP hD hS => ?_)
                  have hP : va_P D vwCl [(rw, .inl (tc 0, 357, .inl (upd row_32 (10 : Int32).toNatClampNeg ((row_32 (10 : Int32).toNatClampNeg) + 1))))] H := hP
                  have hD : va_D A [(rw, .inl (tc 0, 357, .inl (upd row_32 (10 : Int32).toNatClampNeg ((row_32 (10 : Int32).toNatClampNeg) + 1))))] := hD
                  obtain ⟨row_33, hw_33⟩ : ∃ z, (upd row_32 (10 : Int32).toNatClampNeg ((row_32 (10 : Int32).toNatClampNeg) + 1)) = z := ⟨_, rfl⟩
                  rw [hw_33] at hP hD
                  refine lv_aload_n hx hb dX8_endRound_129 rfl (lv_at hl 1 rfl) ?_
                  refine lv_bipush (v := 9) hx hb dX8_endRound_130 (by decide) ?_
                  refine lv_dup2_11 hx hb dX8_endRound_132 rfl rfl ?_
                  refine va_iald (D := D) hx hb hK hP 0 0 rfl rfl (vp_in_iff.mpr (by decide)) dX8_endRound_133 ?_
                  refine lv_iconst (v := 1) hx hb dX8_endRound_134 (by decide) ?_
                  refine lv_iadd hx hb dX8_endRound_135 ?_
                  refine va_iast (D := D) hx hb hK hP hD hS 0 0 rfl rfl (vp_in_iff.mpr (by decide)) dX8_endRound_136 (fun H locs hP hD hS => ?_)
                  have hP : va_P D vwCl [(rw, .inl (tc 0, 357, .inl (upd row_33 (9 : Int32).toNatClampNeg ((row_33 (9 : Int32).toNatClampNeg) + 1))))] H := hP
                  have hD : va_D A [(rw, .inl (tc 0, 357, .inl (upd row_33 (9 : Int32).toNatClampNeg ((row_33 (9 : Int32).toNatClampNeg) + 1))))] := hD
                  obtain ⟨row_34, hw_34⟩ : ∃ z, (upd row_33 (9 : Int32).toNatClampNeg ((row_33 (9 : Int32).toNatClampNeg) + 1)) = z := ⟨_, rfl⟩
                  rw [hw_34] at hP hD
                  refine lv_aload_n hx hb dX8_endRound_137 rfl (lv_at hl 1 rfl) ?_
                  refine lv_bipush (v := 11) hx hb dX8_endRound_138 (by decide) ?_
                  refine lv_iconst (v := 0) hx hb dX8_endRound_140 (by decide) ?_
                  refine va_iast (D := D) hx hb hK hP hD hS 0 0 rfl rfl (vp_in_iff.mpr (by decide)) dX8_endRound_141 (fun H locs hP hD hS => ?_)
                  have hP : va_P D vwCl [(rw, .inl (tc 0, 357, .inl (upd row_34 (11 : Int32).toNatClampNeg 0)))] H := hP
                  have hD : va_D A [(rw, .inl (tc 0, 357, .inl (upd row_34 (11 : Int32).toNatClampNeg 0)))] := hD
                  obtain ⟨row_35, hw_35⟩ : ∃ z, (upd row_34 (11 : Int32).toNatClampNeg 0) = z := ⟨_, rfl⟩
                  rw [hw_35] at hP hD
                  refine lv_aload_n hx hb dX8_endRound_142 rfl (lv_at hl 1 rfl) ?_
                  refine lv_bipush (v := 12) hx hb dX8_endRound_143 (by decide) ?_
                  refine lv_iconst (v := 0) hx hb dX8_endRound_145 (by decide) ?_
                  refine va_iast (D := D) hx hb hK hP hD hS 0 0 rfl rfl (vp_in_iff.mpr (by decide)) dX8_endRound_146 (fun H locs hP hD hS => ?_)
                  have hP : va_P D vwCl [(rw, .inl (tc 0, 357, .inl (upd row_35 (12 : Int32).toNatClampNeg 0)))] H := hP
                  have hD : va_D A [(rw, .inl (tc 0, 357, .inl (upd row_35 (12 : Int32).toNatClampNeg 0)))] := hD
                  obtain ⟨row_36, hw_36⟩ : ∃ z, (upd row_35 (12 : Int32).toNatClampNeg 0) = z := ⟨_, rfl⟩
                  rw [hw_36] at hP hD
                  refine lv_aload_n hx hb dX8_endRound_147 rfl (lv_at hl 1 rfl) ?_
                  refine lv_bipush (v := 13) hx hb dX8_endRound_148 (by decide) ?_
                  refine lv_iconst (v := 0) hx hb dX8_endRound_150 (by decide) ?_
                  refine va_iast (D := D) hx hb hK hP hD hS 0 0 rfl rfl (vp_in_iff.mpr (by decide)) dX8_endRound_151 (fun H locs hP hD hS => ?_)
                  have hP : va_P D vwCl [(rw, .inl (tc 0, 357, .inl (upd row_36 (13 : Int32).toNatClampNeg 0)))] H := hP
                  have hD : va_D A [(rw, .inl (tc 0, 357, .inl (upd row_36 (13 : Int32).toNatClampNeg 0)))] := hD
                  obtain ⟨row_37, hw_37⟩ : ∃ z, (upd row_36 (13 : Int32).toNatClampNeg 0) = z := ⟨_, rfl⟩
                  rw [hw_37] at hP hD
                  refine lv_aload_n hx hb dX8_endRound_152 rfl (lv_at hl 1 rfl) ?_
                  refine lv_bipush (v := 14) hx hb dX8_endRound_153 (by decide) ?_
                  refine lv_iconst (v := 0) hx hb dX8_endRound_155 (by decide) ?_
                  refine va_iast (D := D) hx hb hK hP hD hS 0 0 rfl rfl (vp_in_iff.mpr (by decide)) dX8_endRound_156 (fun H locs hP hD hS => ?_)
                  have hP : va_P D vwCl [(rw, .inl (tc 0, 357, .inl (upd row_37 (14 : Int32).toNatClampNeg 0)))] H := hP
                  have hD : va_D A [(rw, .inl (tc 0, 357, .inl (upd row_37 (14 : Int32).toNatClampNeg 0)))] := hD
                  obtain ⟨row_38, hw_38⟩ : ∃ z, (upd row_37 (14 : Int32).toNatClampNeg 0) = z := ⟨_, rfl⟩
                  rw [hw_38] at hP hD
                  exact hret _ _ row_38 _ _ (by rw [hI_13, mX8_endRound_L13_s, mX8_endRound_S13]; (try dsimp only); rw [if_pos c_7]; rw [hw_8]; (try dsimp only); rw [if_pos c_9]; rw [if_pos c_10]; rw [if_neg c_11]; rw [hw_29]; (try dsimp only); rw [hw_30]; (try dsimp only); rw [if_pos c_31]; rw [hw_32]; (try dsimp only); rw [hw_33]; (try dsimp only); rw [hw_34]; (try dsimp only); rw [hw_35]; (try dsimp only); rw [hw_36]; (try dsimp only); rw [hw_37]; (try dsimp only); rw [hw_38]; (try dsimp only); (first | done | rfl)) (hP.sub [0] rfl) (hD.sub [0] (by decide) rfl) hS dX8_endRound_157
                · refine lv_iconst (v := 1) hx hb dX8_endRound_114 (by decide) ?_
                  refine lv_goto (tgt := 119) hx hb dX8_endRound_115 (by decide) ?_
                  refine lv_iadd hx hb dX8_endRound_119 ?_
                  refine va_iast (D := D) hx hb hK hP hD hS 0 0 rfl rfl (vp_in_iff.mpr (by decide)) dX8_endRound_120 (fun H locs hP hD hS => ?_)
                  have hP : va_P D vwCl [(rw, .inl (tc 0, 357, .inl (upd row_30 (18 : Int32).toNatClampNeg ((row_30 (18 : Int32).toNatClampNeg) + 1))))] H := hP
                  have hD : va_D A [(rw, .inl (tc 0, 357, .inl (upd row_30 (18 : Int32).toNatClampNeg ((row_30 (18 : Int32).toNatClampNeg) + 1))))] := hD
                  obtain ⟨row_39, hw_39⟩ : ∃ z, (upd row_30 (18 : Int32).toNatClampNeg ((row_30 (18 : Int32).toNatClampNeg) + 1)) = z := ⟨_, rfl⟩
                  rw [hw_39] at hP hD
                  refine lv_aload_n hx hb dX8_endRound_121 rfl (lv_at hl 1 rfl) ?_
                  refine lv_bipush (v := 10) hx hb dX8_endRound_122 (by decide) ?_
                  refine lv_dup2_11 hx hb dX8_endRound_124 rfl rfl ?_
                  refine va_iald (D := D) hx hb hK hP 0 0 rfl rfl (vp_in_iff.mpr (by decide)) dX8_endRound_125 ?_
                  refine lv_iconst (v := 1) hx hb dX8_endRound_126 (by decide) ?_
                  refine lv_iadd hx hb dX8_endRound_127 ?_
                  refine va_iast (D := D) hx hb hK hP hD hS 0 0 rfl rfl (vp_in_iff.mpr (by decide)) dX8_endRound_128 (fun H locs hP hD hS => ?_)
                  have hP : va_P D vwCl [(rw, .inl (tc 0, 357, .inl (upd row_39 (10 : Int32).toNatClampNeg ((row_39 (10 : Int32).toNatClampNeg) + 1))))] H := hP
                  have hD : va_D A [(rw, .inl (tc 0, 357, .inl (upd row_39 (10 : Int32).toNatClampNeg ((row_39 (10 : Int32).toNatClampNeg) + 1))))] := hD
                  obtain ⟨row_40, hw_40⟩ : ∃ z, (upd row_39 (10 : Int32).toNatClampNeg ((row_39 (10 : Int32).toNatClampNeg) + 1)) = z := ⟨_, rfl⟩
                  rw [hw_40] at hP hD
                  refine lv_aload_n hx hb dX8_endRound_129 rfl (lv_at hl 1 rfl) ?_
                  refine lv_bipush (v := 9) hx hb dX8_endRound_130 (by decide) ?_
                  refine lv_dup2_11 hx hb dX8_endRound_132 rfl rfl ?_
                  refine va_iald (D := D) hx hb hK hP 0 0 rfl rfl (vp_in_iff.mpr (by decide)) dX8_endRound_133 ?_
                  refine lv_iconst (v := 1) hx hb dX8_endRound_134 (by decide) ?_
                  refine lv_iadd hx hb dX8_endRound_135 ?_
                  refine va_iast (D := D) hx hb hK hP hD hS 0 0 rfl rfl (vp_in_iff.mpr (by decide)) dX8_endRound_136 (fun H locs hP hD hS => ?_)
                  have hP : va_P D vwCl [(rw, .inl (tc 0, 357, .inl (upd row_40 (9 : Int32).toNatClampNeg ((row_40 (9 : Int32).toNatClampNeg) + 1))))] H := hP
                  have hD : va_D A [(rw, .inl (tc 0, 357, .inl (upd row_40 (9 : Int32).toNatClampNeg ((row_40 (9 : Int32).toNatClampNeg) + 1))))] := hD
                  obtain ⟨row_41, hw_41⟩ : ∃ z, (upd row_40 (9 : Int32).toNatClampNeg ((row_40 (9 : Int32).toNatClampNeg) + 1)) = z := ⟨_, rfl⟩
                  rw [hw_41] at hP hD
                  refine lv_aload_n hx hb dX8_endRound_137 rfl (lv_at hl 1 rfl) ?_
                  refine lv_bipush (v := 11) hx hb dX8_endRound_138 (by decide) ?_
                  refine lv_iconst (v := 0) hx hb dX8_endRound_140 (by decide) ?_
                  refine va_iast (D := D) hx hb hK hP hD hS 0 0 rfl rfl (vp_in_iff.mpr (by decide)) dX8_endRound_141 (fun H locs hP hD hS => ?_)
                  have hP : va_P D vwCl [(rw, .inl (tc 0, 357, .inl (upd row_41 (11 : Int32).toNatClampNeg 0)))] H := hP
                  have hD : va_D A [(rw, .inl (tc 0, 357, .inl (upd row_41 (11 : Int32).toNatClampNeg 0)))] := hD
                  obtain ⟨row_42, hw_42⟩ : ∃ z, (upd row_41 (11 : Int32).toNatClampNeg 0) = z := ⟨_, rfl⟩
                  rw [hw_42] at hP hD
                  refine lv_aload_n hx hb dX8_endRound_142 rfl (lv_at hl 1 rfl) ?_
                  refine lv_bipush (v := 12) hx hb dX8_endRound_143 (by decide) ?_
                  refine lv_iconst (v := 0) hx hb dX8_endRound_145 (by decide) ?_
                  refine va_iast (D := D) hx hb hK hP hD hS 0 0 rfl rfl (vp_in_iff.mpr (by decide)) dX8_endRound_146 (fun H locs hP hD hS => ?_)
                  have hP : va_P D vwCl [(rw, .inl (tc 0, 357, .inl (upd row_42 (12 : Int32).toNatClampNeg 0)))] H := hP
                  have hD : va_D A [(rw, .inl (tc 0, 357, .inl (upd row_42 (12 : Int32).toNatClampNeg 0)))] := hD
                  obtain ⟨row_43, hw_43⟩ : ∃ z, (upd row_42 (12 : Int32).toNatClampNeg 0) = z := ⟨_, rfl⟩
                  rw [hw_43] at hP hD
                  refine lv_aload_n hx hb dX8_endRound_147 rfl (lv_at hl 1 rfl) ?_
                  refine lv_bipush (v := 13) hx hb dX8_endRound_148 (by decide) ?_
                  refine lv_iconst (v := 0) hx hb dX8_endRound_150 (by decide) ?_
                  refine va_iast (D := D) hx hb hK hP hD hS 0 0 rfl rfl (vp_in_iff.mpr (by decide)) dX8_endRound_151 (fun H locs hP hD hS => ?_)
                  have hP : va_P D vwCl [(rw, .inl (tc 0, 357, .inl (upd row_43 (13 : Int32).toNatClampNeg 0)))] H := hP
                  have hD : va_D A [(rw, .inl (tc 0, 357, .inl (upd row_43 (13 : Int32).toNatClampNeg 0)))] := hD
                  obtain ⟨row_44, hw_44⟩ : ∃ z, (upd row_43 (13 : Int32).toNatClampNeg 0) = z := ⟨_, rfl⟩
                  rw [hw_44] at hP hD
                  refine lv_aload_n hx hb dX8_endRound_152 rfl (lv_at hl 1 rfl) ?_
                  refine lv_bipush (v := 14) hx hb dX8_endRound_153 (by decide) ?_
                  refine lv_iconst (v := 0) hx hb dX8_endRound_155 (by decide) ?_
                  refine va_iast (D := D) hx hb hK hP hD hS 0 0 rfl rfl (vp_in_iff.mpr (by decide)) dX8_endRound_156 (fun H locs hP hD hS => ?_)
                  have hP : va_P D vwCl [(rw, .inl (tc 0, 357, .inl (upd row_44 (14 : Int32).toNatClampNeg 0)))] H := hP
                  have hD : va_D A [(rw, .inl (tc 0, 357, .inl (upd row_44 (14 : Int32).toNatClampNeg 0)))] := hD
                  obtain ⟨row_45, hw_45⟩ : ∃ z, (upd row_44 (14 : Int32).toNatClampNeg 0) = z := ⟨_, rfl⟩
                  rw [hw_45] at hP hD
                  exact hret _ _ row_45 _ _ (by rw [hI_13, mX8_endRound_L13_s, mX8_endRound_S13]; (try dsimp only); rw [if_pos c_7]; rw [hw_8]; (try dsimp only); rw [if_pos c_9]; rw [if_pos c_10]; rw [if_neg c_11]; rw [hw_29]; (try dsimp only); rw [hw_30]; (try dsimp only); rw [if_neg c_31]; rw [hw_39]; (try dsimp only); rw [hw_40]; (try dsimp only); rw [hw_41]; (try dsimp only); rw [hw_42]; (try dsimp only); rw [hw_43]; (try dsimp only); rw [hw_44]; (try dsimp only); rw [hw_45]; (try dsimp only); (first | done | rfl)) (hP.sub [0] rfl) (hD.sub [0] (by decide) rfl) hS dX8_endRound_157
            · refine lv_iconst (v := 2) hx hb dX8_endRound_74 (by decide) ?_
              refine lv_goto (tgt := 90) hx hb dX8_endRound_75 (by decide) ?_
              refine va_iast (D := D) hx hb hK hP hD hS 0 0 rfl rfl (vp_in_iff.mpr (by decide)) dX8_endRound_90 (fun H locs hP hD hS => ?_)
              have hP : va_P D vwCl [(rw, .inl (tc 0, 357, .inl (upd row_8 (328 : Int32).toNatClampNeg 2)))] H := hP
              have hD : va_D A [(rw, .inl (tc 0, 357, .inl (upd row_8 (328 : Int32).toNatClampNeg 2)))] := hD
              obtain ⟨row_46, hw_46⟩ : ∃ z, (upd row_8 (328 : Int32).toNatClampNeg 2) = z := ⟨_, rfl⟩
              rw [hw_46] at hP hD
              refine lv_aload_n hx hb dX8_endRound_91 rfl (lv_at hl 1 rfl) ?_
              refine lv_sipush (v := 329) hx hb dX8_endRound_92 (by decide) ?_
              refine lv_aload_n hx hb dX8_endRound_95 rfl (lv_at hl 1 rfl) ?_
              refine lv_bipush (v := 12) hx hb dX8_endRound_96 (by decide) ?_
              refine va_iald (D := D) hx hb hK hP 0 0 rfl rfl (vp_in_iff.mpr (by decide)) dX8_endRound_98 ?_
              refine va_iast (D := D) hx hb hK hP hD hS 0 0 rfl rfl (vp_in_iff.mpr (by decide)) dX8_endRound_99 (fun H locs hP hD hS => ?_)
              have hP : va_P D vwCl [(rw, .inl (tc 0, 357, .inl (upd row_46 (329 : Int32).toNatClampNeg (row_46 (12 : Int32).toNatClampNeg))))] H := hP
              have hD : va_D A [(rw, .inl (tc 0, 357, .inl (upd row_46 (329 : Int32).toNatClampNeg (row_46 (12 : Int32).toNatClampNeg))))] := hD
              obtain ⟨row_47, hw_47⟩ : ∃ z, (upd row_46 (329 : Int32).toNatClampNeg (row_46 (12 : Int32).toNatClampNeg)) = z := ⟨_, rfl⟩
              rw [hw_47] at hP hD
              refine lv_aload_n hx hb dX8_endRound_100 rfl (lv_at hl 1 rfl) ?_
              refine lv_bipush (v := 18) hx hb dX8_endRound_101 (by decide) ?_
              refine lv_dup2_11 hx hb dX8_endRound_103 rfl rfl ?_
              refine va_iald (D := D) hx hb hK hP 0 0 rfl rfl (vp_in_iff.mpr (by decide)) dX8_endRound_104 ?_
              refine lv_aload_n hx hb dX8_endRound_105 rfl (lv_at hl 1 rfl) ?_
              refine lv_bipush (v := 18) hx hb dX8_endRound_106 (by decide) ?_
              refine va_iald (D := D) hx hb hK hP 0 0 rfl rfl (vp_in_iff.mpr (by decide)) dX8_endRound_108 ?_
              refine lv_bipush (v := 10) hx hb dX8_endRound_109 (by decide) ?_
              refine lv_icmp_ge (tgt := 118) hx hb dX8_endRound_111 (by decide) (fun c_48 => ?_) (fun c_48 => ?_)
              · refine lv_iconst (v := 0) hx hb dX8_endRound_118 (by decide) ?_
                refine lv_iadd hx hb dX8_endRound_119 ?_
                refine va_iast (D := D) hx hb hK hP hD hS 0 0 rfl rfl (vp_in_iff.mpr (by decide)) dX8_endRound_120 (fun H locs hP hD hS => ?_)
                have hP : va_P D vwCl [(rw, .inl (tc 0, 357, .inl (upd row_47 (18 : Int32).toNatClampNeg ((row_47 (18 : Int32).toNatClampNeg) + 0))))] H := hP
                have hD : va_D A [(rw, .inl (tc 0, 357, .inl (upd row_47 (18 : Int32).toNatClampNeg ((row_47 (18 : Int32).toNatClampNeg) + 0))))] := hD
                obtain ⟨row_49, hw_49⟩ : ∃ z, (upd row_47 (18 : Int32).toNatClampNeg ((row_47 (18 : Int32).toNatClampNeg) + 0)) = z := ⟨_, rfl⟩
                rw [hw_49] at hP hD
                refine lv_aload_n hx hb dX8_endRound_121 rfl (lv_at hl 1 rfl) ?_
                refine lv_bipush (v := 10) hx hb dX8_endRound_122 (by decide) ?_
                refine lv_dup2_11 hx hb dX8_endRound_124 rfl rfl ?_
                refine va_iald (D := D) hx hb hK hP 0 0 rfl rfl (vp_in_iff.mpr (by decide)) dX8_endRound_125 ?_
                refine lv_iconst (v := 1) hx hb dX8_endRound_126 (by decide) ?_
                refine lv_iadd hx hb dX8_endRound_127 ?_
                refine va_iast (D := D) hx hb hK hP hD hS 0 0 rfl rfl (vp_in_iff.mpr (by decide)) dX8_endRound_128 (fun H locs hP hD hS => ?_)
                have hP : va_P D vwCl [(rw, .inl (tc 0, 357, .inl (upd row_49 (10 : Int32).toNatClampNeg ((row_49 (10 : Int32).toNatClampNeg) + 1))))] H := hP
                have hD : va_D A [(rw, .inl (tc 0, 357, .inl (upd row_49 (10 : Int32).toNatClampNeg ((row_49 (10 : Int32).toNatClampNeg) + 1))))] := hD
                obtain ⟨row_50, hw_50⟩ : ∃ z, (upd row_49 (10 : Int32).toNatClampNeg ((row_49 (10 : Int32).toNatClampNeg) + 1)) = z := ⟨_, rfl⟩
                rw [hw_50] at hP hD
                refine lv_aload_n hx hb dX8_endRound_129 rfl (lv_at hl 1 rfl) ?_
                refine lv_bipush (v := 9) hx hb dX8_endRound_130 (by decide) ?_
                refine lv_dup2_11 hx hb dX8_endRound_132 rfl rfl ?_
                refine va_iald (D := D) hx hb hK hP 0 0 rfl rfl (vp_in_iff.mpr (by decide)) dX8_endRound_133 ?_
                refine lv_iconst (v := 1) hx hb dX8_endRound_134 (by decide) ?_
                refine lv_iadd hx hb dX8_endRound_135 ?_
                refine va_iast (D := D) hx hb hK hP hD hS 0 0 rfl rfl (vp_in_iff.mpr (by decide)) dX8_endRound_136 (fun H locs hP hD hS => ?_)
                have hP : va_P D vwCl [(rw, .inl (tc 0, 357, .inl (upd row_50 (9 : Int32).toNatClampNeg ((row_50 (9 : Int32).toNatClampNeg) + 1))))] H := hP
                have hD : va_D A [(rw, .inl (tc 0, 357, .inl (upd row_50 (9 : Int32).toNatClampNeg ((row_50 (9 : Int32).toNatClampNeg) + 1))))] := hD
                obtain ⟨row_51, hw_51⟩ : ∃ z, (upd row_50 (9 : Int32).toNatClampNeg ((row_50 (9 : Int32).toNatClampNeg) + 1)) = z := ⟨_, rfl⟩
                rw [hw_51] at hP hD
                refine lv_aload_n hx hb dX8_endRound_137 rfl (lv_at hl 1 rfl) ?_
                refine lv_bipush (v := 11) hx hb dX8_endRound_138 (by decide) ?_
                refine lv_iconst (v := 0) hx hb dX8_endRound_140 (by decide) ?_
                refine va_iast (D := D) hx hb hK hP hD hS 0 0 rfl rfl (vp_in_iff.mpr (by decide)) dX8_endRound_141 (fun H locs hP hD hS => ?_)
                have hP : va_P D vwCl [(rw, .inl (tc 0, 357, .inl (upd row_51 (11 : Int32).toNatClampNeg 0)))] H := hP
                have hD : va_D A [(rw, .inl (tc 0, 357, .inl (upd row_51 (11 : Int32).toNatClampNeg 0)))] := hD
                obtain ⟨row_52, hw_52⟩ : ∃ z, (upd row_51 (11 : Int32).toNatClampNeg 0) = z := ⟨_, rfl⟩
                rw [hw_52] at hP hD
                refine lv_aload_n hx hb dX8_endRound_142 rfl (lv_at hl 1 rfl) ?_
                refine lv_bipush (v := 12) hx hb dX8_endRound_143 (by decide) ?_
                refine lv_iconst (v := 0) hx hb dX8_endRound_145 (by decide) ?_
                refine va_iast (D := D) hx hb hK hP hD hS 0 0 rfl rfl (vp_in_iff.mpr (by decide)) dX8_endRound_146 (fun H locs hP hD hS => ?_)
                have hP : va_P D vwCl [(rw, .inl (tc 0, 357, .inl (upd row_52 (12 : Int32).toNatClampNeg 0)))] H := hP
                have hD : va_D A [(rw, .inl (tc 0, 357, .inl (upd row_52 (12 : Int32).toNatClampNeg 0)))] := hD
                obtain ⟨row_53, hw_53⟩ : ∃ z, (upd row_52 (12 : Int32).toNatClampNeg 0) = z := ⟨_, rfl⟩
                rw [hw_53] at hP hD
                refine lv_aload_n hx hb dX8_endRound_147 rfl (lv_at hl 1 rfl) ?_
                refine lv_bipush (v := 13) hx hb dX8_endRound_148 (by decide) ?_
                refine lv_iconst (v := 0) hx hb dX8_endRound_150 (by decide) ?_
                refine va_iast (D := D) hx hb hK hP hD hS 0 0 rfl rfl (vp_in_iff.mpr (by decide)) dX8_endRound_151 (fun H locs hP hD hS => ?_)
                have hP : va_P D vwCl [(rw, .inl (tc 0, 357, .inl (upd row_53 (13 : Int32).toNatClampNeg 0)))] H := hP
                have hD : va_D A [(rw, .inl (tc 0, 357, .inl (upd row_53 (13 : Int32).toNatClampNeg 0)))] := hD
                obtain ⟨row_54, hw_54⟩ : ∃ z, (upd row_53 (13 : Int32).toNatClampNeg 0) = z := ⟨_, rfl⟩
                rw [hw_54] at hP hD
                refine lv_aload_n hx hb dX8_endRound_152 rfl (lv_at hl 1 rfl) ?_
                refine lv_bipush (v := 14) hx hb dX8_endRound_153 (by decide) ?_
                refine lv_iconst (v := 0) hx hb dX8_endRound_155 (by decide) ?_
                refine va_iast (D := D) hx hb hK hP hD hS 0 0 rfl rfl (vp_in_iff.mpr (by decide)) dX8_endRound_156 (fun H locs hP hD hS => ?_)
                have hP : va_P D vwCl [(rw, .inl (tc 0, 357, .inl (upd row_54 (14 : Int32).toNatClampNeg 0)))] H := hP
                have hD : va_D A [(rw, .inl (tc 0, 357, .inl (upd row_54 (14 : Int32).toNatClampNeg 0)))] := hD
                obtain ⟨row_55, hw_55⟩ : ∃ z, (upd row_54 (14 : Int32).toNatClampNeg 0) = z := ⟨_, rfl⟩
                rw [hw_55] at hP hD
                exact hret _ _ row_55 _ _ (by rw [hI_13, mX8_endRound_L13_s, mX8_endRound_S13]; (try dsimp only); rw [if_pos c_7]; rw [hw_8]; (try dsimp only); rw [if_pos c_9]; rw [if_neg c_10]; rw [hw_46]; (try dsimp only); rw [hw_47]; (try dsimp only); rw [if_pos c_48]; rw [hw_49]; (try dsimp only); rw [hw_50]; (try dsimp only); rw [hw_51]; (try dsimp only); rw [hw_52]; (try dsimp only); rw [hw_53]; (try dsimp only); rw [hw_54]; (try dsimp only); rw [hw_55]; (try dsimp only); (first | done | rfl)) (hP.sub [0] rfl) (hD.sub [0] (by decide) rfl) hS dX8_endRound_157
              · refine lv_iconst (v := 1) hx hb dX8_endRound_114 (by decide) ?_
                refine lv_goto (tgt := 119) hx hb dX8_endRound_115 (by decide) ?_
                refine lv_iadd hx hb dX8_endRound_119 ?_
                refine va_iast (D := D) hx hb hK hP hD hS 0 0 rfl rfl (vp_in_iff.mpr (by decide)) dX8_endRound_120 (fun H locs hP hD hS => ?_)
                have hP : va_P D vwCl [(rw, .inl (tc 0, 357, .inl (upd row_47 (18 : Int32).toNatClampNeg ((row_47 (18 : Int32).toNatClampNeg) + 1))))] H := hP
                have hD : va_D A [(rw, .inl (tc 0, 357, .inl (upd row_47 (18 : Int32).toNatClampNeg ((row_47 (18 : Int32).toNatClampNeg) + 1))))] := hD
                obtain ⟨row_56, hw_56⟩ : ∃ z, (upd row_47 (18 : Int32).toNatClampNeg ((row_47 (18 : Int32).toNatClampNeg) + 1)) = z := ⟨_, rfl⟩
                rw [hw_56] at hP hD
                refine lv_aload_n hx hb dX8_endRound_121 rfl (lv_at hl 1 rfl) ?_
                refine lv_bipush (v := 10) hx hb dX8_endRound_122 (by decide) ?_
                refine lv_dup2_11 hx hb dX8_endRound_124 rfl rfl ?_
                refine va_iald (D := D) hx hb hK hP 0 0 rfl rfl (vp_in_iff.mpr (by decide)) dX8_endRound_125 ?_
                refine lv_iconst (v := 1) hx hb dX8_endRound_126 (by decide) ?_
                refine lv_iadd hx hb dX8_endRound_127 ?_
                refine va_iast (D := D) hx hb hK hP hD hS 0 0 rfl rfl (vp_in_iff.mpr (by decide)) dX8_endRound_128 (fun H locs hP hD hS => ?_)
                have hP : va_P D vwCl [(rw, .inl (tc 0, 357, .inl (upd row_56 (10 : Int32).toNatClampNeg ((row_56 (10 : Int32).toNatClampNeg) + 1))))] H := hP
                have hD : va_D A [(rw, .inl (tc 0, 357, .inl (upd row_56 (10 : Int32).toNatClampNeg ((row_56 (10 : Int32).toNatClampNeg) + 1))))] := hD
                obtain ⟨row_57, hw_57⟩ : ∃ z, (upd row_56 (10 : Int32).toNatClampNeg ((row_56 (10 : Int32).toNatClampNeg) + 1)) = z := ⟨_, rfl⟩
                rw [hw_57] at hP hD
                refine lv_aload_n hx hb dX8_endRound_129 rfl (lv_at hl 1 rfl) ?_
                refine lv_bipush (v := 9) hx hb dX8_endRound_130 (by decide) ?_
                refine lv_dup2_11 hx hb dX8_endRound_132 rfl rfl ?_
                refine va_iald (D := D) hx hb hK hP 0 0 rfl rfl (vp_in_iff.mpr (by decide)) dX8_endRound_133 ?_
                refine lv_iconst (v := 1) hx hb dX8_endRound_134 (by decide) ?_
                refine lv_iadd hx hb dX8_endRound_135 ?_
                refine va_iast (D := D) hx hb hK hP hD hS 0 0 rfl rfl (vp_in_iff.mpr (by decide)) dX8_endRound_136 (fun H locs hP hD hS => ?_)
                have hP : va_P D vwCl [(rw, .inl (tc 0, 357, .inl (upd row_57 (9 : Int32).toNatClampNeg ((row_57 (9 : Int32).toNatClampNeg) + 1))))] H := hP
                have hD : va_D A [(rw, .inl (tc 0, 357, .inl (upd row_57 (9 : Int32).toNatClampNeg ((row_57 (9 : Int32).toNatClampNeg) + 1))))] := hD
                obtain ⟨row_58, hw_58⟩ : ∃ z, (upd row_57 (9 : Int32).toNatClampNeg ((row_57 (9 : Int32).toNatClampNeg) + 1)) = z := ⟨_, rfl⟩
                rw [hw_58] at hP hD
                refine lv_aload_n hx hb dX8_endRound_137 rfl (lv_at hl 1 rfl) ?_
                refine lv_bipush (v := 11) hx hb dX8_endRound_138 (by decide) ?_
                refine lv_iconst (v := 0) hx hb dX8_endRound_140 (by decide) ?_
                refine va_iast (D := D) hx hb hK hP hD hS 0 0 rfl rfl (vp_in_iff.mpr (by decide)) dX8_endRound_141 (fun H locs hP hD hS => ?_)
                have hP : va_P D vwCl [(rw, .inl (tc 0, 357, .inl (upd row_58 (11 : Int32).toNatClampNeg 0)))] H := hP
                have hD : va_D A [(rw, .inl (tc 0, 357, .inl (upd row_58 (11 : Int32).toNatClampNeg 0)))] := hD
                obtain ⟨row_59, hw_59⟩ : ∃ z, (upd row_58 (11 : Int32).toNatClampNeg 0) = z := ⟨_, rfl⟩
                rw [hw_59] at hP hD
                refine lv_aload_n hx hb dX8_endRound_142 rfl (lv_at hl 1 rfl) ?_
                refine lv_bipush (v := 12) hx hb dX8_endRound_143 (by decide) ?_
                refine lv_iconst (v := 0) hx hb dX8_endRound_145 (by decide) ?_
                refine va_iast (D := D) hx hb hK hP hD hS 0 0 rfl rfl (vp_in_iff.mpr (by decide)) dX8_endRound_146 (fun H locs hP hD hS => ?_)
                have hP : va_P D vwCl [(rw, .inl (tc 0, 357, .inl (upd row_59 (12 : Int32).toNatClampNeg 0)))] H := hP
                have hD : va_D A [(rw, .inl (tc 0, 357, .inl (upd row_59 (12 : Int32).toNatClampNeg 0)))] := hD
                obtain ⟨row_60, hw_60⟩ : ∃ z, (upd row_59 (12 : Int32).toNatClampNeg 0) = z := ⟨_, rfl⟩
                rw [hw_60] at hP hD
                refine lv_aload_n hx hb dX8_endRound_147 rfl (lv_at hl 1 rfl) ?_
                refine lv_bipush (v := 13) hx hb dX8_endRound_148 (by decide) ?_
                refine lv_iconst (v := 0) hx hb dX8_endRound_150 (by decide) ?_
                refine va_iast (D := D) hx hb hK hP hD hS 0 0 rfl rfl (vp_in_iff.mpr (by decide)) dX8_endRound_151 (fun H locs hP hD hS => ?_)
                have hP : va_P D vwCl [(rw, .inl (tc 0, 357, .inl (upd row_60 (13 : Int32).toNatClampNeg 0)))] H := hP
                have hD : va_D A [(rw, .inl (tc 0, 357, .inl (upd row_60 (13 : Int32).toNatClampNeg 0)))] := hD
                obtain ⟨row_61, hw_61⟩ : ∃ z, (upd row_60 (13 : Int32).toNatClampNeg 0) = z := ⟨_, rfl⟩
                rw [hw_61] at hP hD
                refine lv_aload_n hx hb dX8_endRound_152 rfl (lv_at hl 1 rfl) ?_
                refine lv_bipush (v := 14) hx hb dX8_endRound_153 (by decide) ?_
                refine lv_iconst (v := 0) hx hb dX8_endRound_155 (by decide) ?_
                refine va_iast (D := D) hx hb hK hP hD hS 0 0 rfl rfl (vp_in_iff.mpr (by decide)) dX8_endRound_156 (fun H locs hP hD hS => ?_)
                have hP : va_P D vwCl [(rw, .inl (tc 0, 357, .inl (upd row_61 (14 : Int32).toNatClampNeg 0)))] H := hP
                have hD : va_D A [(rw, .inl (tc 0, 357, .inl (upd row_61 (14 : Int32).toNatClampNeg 0)))] := hD
                obtain ⟨row_62, hw_62⟩ : ∃ z, (upd row_61 (14 : Int32).toNatClampNeg 0) = z := ⟨_, rfl⟩
                rw [hw_62] at hP hD
                exact hret _ _ row_62 _ _ (by rw [hI_13, mX8_endRound_L13_s, mX8_endRound_S13]; (try dsimp only); rw [if_pos c_7]; rw [hw_8]; (try dsimp only); rw [if_pos c_9]; rw [if_neg c_10]; rw [hw_46]; (try dsimp only); rw [hw_47]; (try dsimp only); rw [if_neg c_48]; rw [hw_56]; (try dsimp only); rw [hw_57]; (try dsimp only); rw [hw_58]; (try dsimp only); rw [hw_59]; (try dsimp only); rw [hw_60]; (try dsimp only); rw [hw_61]; (try dsimp only); rw [hw_62]; (try dsimp only); (first | done | rfl)) (hP.sub [0] rfl) (hD.sub [0] (by decide) rfl) hS dX8_endRound_157
          · refine lv_iconst (v := 1) hx hb dX8_endRound_63 (by decide) ?_
            refine lv_goto (tgt := 90) hx hb dX8_endRound_64 (by decide) ?_
            refine va_iast (D := D) hx hb hK hP hD hS 0 0 rfl rfl (vp_in_iff.mpr (by decide)) dX8_endRound_90 (fun H locs hP hD hS => ?_)
            have hP : va_P D vwCl [(rw, .inl (tc 0, 357, .inl (upd row_8 (328 : Int32).toNatClampNeg 1)))] H := hP
            have hD : va_D A [(rw, .inl (tc 0, 357, .inl (upd row_8 (328 : Int32).toNatClampNeg 1)))] := hD
            obtain ⟨row_63, hw_63⟩ : ∃ z, (upd row_8 (328 : Int32).toNatClampNeg 1) = z := ⟨_, rfl⟩
            rw [hw_63] at hP hD
            refine lv_aload_n hx hb dX8_endRound_91 rfl (lv_at hl 1 rfl) ?_
            refine lv_sipush (v := 329) hx hb dX8_endRound_92 (by decide) ?_
            refine lv_aload_n hx hb dX8_endRound_95 rfl (lv_at hl 1 rfl) ?_
            refine lv_bipush (v := 12) hx hb dX8_endRound_96 (by decide) ?_
            refine va_iald (D := D) hx hb hK hP 0 0 rfl rfl (vp_in_iff.mpr (by decide)) dX8_endRound_98 ?_
            refine va_iast (D := D) hx hb hK hP hD hS 0 0 rfl rfl (vp_in_iff.mpr (by decide)) dX8_endRound_99 (fun H locs hP hD hS => ?_)
            have hP : va_P D vwCl [(rw, .inl (tc 0, 357, .inl (upd row_63 (329 : Int32).toNatClampNeg (row_63 (12 : Int32).toNatClampNeg))))] H := hP
            have hD : va_D A [(rw, .inl (tc 0, 357, .inl (upd row_63 (329 : Int32).toNatClampNeg (row_63 (12 : Int32).toNatClampNeg))))] := hD
            obtain ⟨row_64, hw_64⟩ : ∃ z, (upd row_63 (329 : Int32).toNatClampNeg (row_63 (12 : Int32).toNatClampNeg)) = z := ⟨_, rfl⟩
            rw [hw_64] at hP hD
            refine lv_aload_n hx hb dX8_endRound_100 rfl (lv_at hl 1 rfl) ?_
            refine lv_bipush (v := 18) hx hb dX8_endRound_101 (by decide) ?_
            refine lv_dup2_11 hx hb dX8_endRound_103 rfl rfl ?_
            refine va_iald (D := D) hx hb hK hP 0 0 rfl rfl (vp_in_iff.mpr (by decide)) dX8_endRound_104 ?_
            refine lv_aload_n hx hb dX8_endRound_105 rfl (lv_at hl 1 rfl) ?_
            refine lv_bipush (v := 18) hx hb dX8_endRound_106 (by decide) ?_
            refine va_iald (D := D) hx hb hK hP 0 0 rfl rfl (vp_in_iff.mpr (by decide)) dX8_endRound_108 ?_
            refine lv_bipush (v := 10) hx hb dX8_endRound_109 (by decide) ?_
            refine lv_icmp_ge (tgt := 118) hx hb dX8_endRound_111 (by decide) (fun c_65 => ?_) (fun c_65 => ?_)
            · refine lv_iconst (v := 0) hx hb dX8_endRound_118 (by decide) ?_
              refine lv_iadd hx hb dX8_endRound_119 ?_
              refine va_iast (D := D) hx hb hK hP hD hS 0 0 rfl rfl (vp_in_iff.mpr (by decide)) dX8_endRound_120 (fun H locs hP hD hS => ?_)
              have hP : va_P D vwCl [(rw, .inl (tc 0, 357, .inl (upd row_64 (18 : Int32).toNatClampNeg ((row_64 (18 : Int32).toNatClampNeg) + 0))))] H := hP
              have hD : va_D A [(rw, .inl (tc 0, 357, .inl (upd row_64 (18 : Int32).toNatClampNeg ((row_64 (18 : Int32).toNatClampNeg) + 0))))] := hD
              obtain ⟨row_66, hw_66⟩ : ∃ z, (upd row_64 (18 : Int32).toNatClampNeg ((row_64 (18 : Int32).toNatClampNeg) + 0)) = z := ⟨_, rfl⟩
              rw [hw_66] at hP hD
              refine lv_aload_n hx hb dX8_endRound_121 rfl (lv_at hl 1 rfl) ?_
              refine lv_bipush (v := 10) hx hb dX8_endRound_122 (by decide) ?_
              refine lv_dup2_11 hx hb dX8_endRound_124 rfl rfl ?_
              refine va_iald (D := D) hx hb hK hP 0 0 rfl rfl (vp_in_iff.mpr (by decide)) dX8_endRound_125 ?_
              refine lv_iconst (v := 1) hx hb dX8_endRound_126 (by decide) ?_
              refine lv_iadd hx hb dX8_endRound_127 ?_
              refine va_iast (D := D) hx hb hK hP hD hS 0 0 rfl rfl (vp_in_iff.mpr (by decide)) dX8_endRound_128 (fun H locs hP hD hS => ?_)
              have hP : va_P D vwCl [(rw, .inl (tc 0, 357, .inl (upd row_66 (10 : Int32).toNatClampNeg ((row_66 (10 : Int32).toNatClampNeg) + 1))))] H := hP
              have hD : va_D A [(rw, .inl (tc 0, 357, .inl (upd row_66 (10 : Int32).toNatClampNeg ((row_66 (10 : Int32).toNatClampNeg) + 1))))] := hD
              obtain ⟨row_67, hw_67⟩ : ∃ z, (upd row_66 (10 : Int32).toNatClampNeg ((row_66 (10 : Int32).toNatClampNeg) + 1)) = z := ⟨_, rfl⟩
              rw [hw_67] at hP hD
              refine lv_aload_n hx hb dX8_endRound_129 rfl (lv_at hl 1 rfl) ?_
              refine lv_bipush (v := 9) hx hb dX8_endRound_130 (by decide) ?_
              refine lv_dup2_11 hx hb dX8_endRound_132 rfl rfl ?_
              refine va_iald (D := D) hx hb hK hP 0 0 rfl rfl (vp_in_iff.mpr (by decide)) dX8_endRound_133 ?_
              refine lv_iconst (v := 1) hx hb dX8_endRound_134 (by decide) ?_
              refine lv_iadd hx hb dX8_endRound_135 ?_
              refine va_iast (D := D) hx hb hK hP hD hS 0 0 rfl rfl (vp_in_iff.mpr (by decide)) dX8_endRound_136 (fun H locs hP hD hS => ?_)
              have hP : va_P D vwCl [(rw, .inl (tc 0, 357, .inl (upd row_67 (9 : Int32).toNatClampNeg ((row_67 (9 : Int32).toNatClampNeg) + 1))))] H := hP
              have hD : va_D A [(rw, .inl (tc 0, 357, .inl (upd row_67 (9 : Int32).toNatClampNeg ((row_67 (9 : Int32).toNatClampNeg) + 1))))] := hD
              obtain ⟨row_68, hw_68⟩ : ∃ z, (upd row_67 (9 : Int32).toNatClampNeg ((row_67 (9 : Int32).toNatClampNeg) + 1)) = z := ⟨_, rfl⟩
              rw [hw_68] at hP hD
              refine lv_aload_n hx hb dX8_endRound_137 rfl (lv_at hl 1 rfl) ?_
              refine lv_bipush (v := 11) hx hb dX8_endRound_138 (by decide) ?_
              refine lv_iconst (v := 0) hx hb dX8_endRound_140 (by decide) ?_
              refine va_iast (D := D) hx hb hK hP hD hS 0 0 rfl rfl (vp_in_iff.mpr (by decide)) dX8_endRound_141 (fun H locs hP hD hS => ?_)
              have hP : va_P D vwCl [(rw, .inl (tc 0, 357, .inl (upd row_68 (11 : Int32).toNatClampNeg 0)))] H := hP
              have hD : va_D A [(rw, .inl (tc 0, 357, .inl (upd row_68 (11 : Int32).toNatClampNeg 0)))] := hD
              obtain ⟨row_69, hw_69⟩ : ∃ z, (upd row_68 (11 : Int32).toNatClampNeg 0) = z := ⟨_, rfl⟩
              rw [hw_69] at hP hD
              refine lv_aload_n hx hb dX8_endRound_142 rfl (lv_at hl 1 rfl) ?_
              refine lv_bipush (v := 12) hx hb dX8_endRound_143 (by decide) ?_
              refine lv_iconst (v := 0) hx hb dX8_endRound_145 (by decide) ?_
              refine va_iast (D := D) hx hb hK hP hD hS 0 0 rfl rfl (vp_in_iff.mpr (by decide)) dX8_endRound_146 (fun H locs hP hD hS => ?_)
              have hP : va_P D vwCl [(rw, .inl (tc 0, 357, .inl (upd row_69 (12 : Int32).toNatClampNeg 0)))] H := hP
              have hD : va_D A [(rw, .inl (tc 0, 357, .inl (upd row_69 (12 : Int32).toNatClampNeg 0)))] := hD
              obtain ⟨row_70, hw_70⟩ : ∃ z, (upd row_69 (12 : Int32).toNatClampNeg 0) = z := ⟨_, rfl⟩
              rw [hw_70] at hP hD
              refine lv_aload_n hx hb dX8_endRound_147 rfl (lv_at hl 1 rfl) ?_
              refine lv_bipush (v := 13) hx hb dX8_endRound_148 (by decide) ?_
              refine lv_iconst (v := 0) hx hb dX8_endRound_150 (by decide) ?_
              refine va_iast (D := D) hx hb hK hP hD hS 0 0 rfl rfl (vp_in_iff.mpr (by decide)) dX8_endRound_151 (fun H locs hP hD hS => ?_)
              have hP : va_P D vwCl [(rw, .inl (tc 0, 357, .inl (upd row_70 (13 : Int32).toNatClampNeg 0)))] H := hP
              have hD : va_D A [(rw, .inl (tc 0, 357, .inl (upd row_70 (13 : Int32).toNatClampNeg 0)))] := hD
              obtain ⟨row_71, hw_71⟩ : ∃ z, (upd row_70 (13 : Int32).toNatClampNeg 0) = z := ⟨_, rfl⟩
              rw [hw_71] at hP hD
              refine lv_aload_n hx hb dX8_endRound_152 rfl (lv_at hl 1 rfl) ?_
              refine lv_bipush (v := 14) hx hb dX8_endRound_153 (by decide) ?_
              refine lv_iconst (v := 0) hx hb dX8_endRound_155 (by decide) ?_
              refine va_iast (D := D) hx hb hK hP hD hS 0 0 rfl rfl (vp_in_iff.mpr (by decide)) dX8_endRound_156 (fun H locs hP hD hS => ?_)
              have hP : va_P D vwCl [(rw, .inl (tc 0, 357, .inl (upd row_71 (14 : Int32).toNatClampNeg 0)))] H := hP
              have hD : va_D A [(rw, .inl (tc 0, 357, .inl (upd row_71 (14 : Int32).toNatClampNeg 0)))] := hD
              obtain ⟨row_72, hw_72⟩ : ∃ z, (upd row_71 (14 : Int32).toNatClampNeg 0) = z := ⟨_, rfl⟩
              rw [hw_72] at hP hD
              exact hret _ _ row_72 _ _ (by rw [hI_13, mX8_endRound_L13_s, mX8_endRound_S13]; (try dsimp only); rw [if_pos c_7]; rw [hw_8]; (try dsimp only); rw [if_neg c_9]; rw [hw_63]; (try dsimp only); rw [hw_64]; (try dsimp only); rw [if_pos c_65]; rw [hw_66]; (try dsimp only); rw [hw_67]; (try dsimp only); rw [hw_68]; (try dsimp only); rw [hw_69]; (try dsimp only); rw [hw_70]; (try dsimp only); rw [hw_71]; (try dsimp only); rw [hw_72]; (try dsimp only); (first | done | rfl)) (hP.sub [0] rfl) (hD.sub [0] (by decide) rfl) hS dX8_endRound_157
            · refine lv_iconst (v := 1) hx hb dX8_endRound_114 (by decide) ?_
              refine lv_goto (tgt := 119) hx hb dX8_endRound_115 (by decide) ?_
              refine lv_iadd hx hb dX8_endRound_119 ?_
              refine va_iast (D := D) hx hb hK hP hD hS 0 0 rfl rfl (vp_in_iff.mpr (by decide)) dX8_endRound_120 (fun H locs hP hD hS => ?_)
              have hP : va_P D vwCl [(rw, .inl (tc 0, 357, .inl (upd row_64 (18 : Int32).toNatClampNeg ((row_64 (18 : Int32).toNatClampNeg) + 1))))] H := hP
              have hD : va_D A [(rw, .inl (tc 0, 357, .inl (upd row_64 (18 : Int32).toNatClampNeg ((row_64 (18 : Int32).toNatClampNeg) + 1))))] := hD
              obtain ⟨row_73, hw_73⟩ : ∃ z, (upd row_64 (18 : Int32).toNatClampNeg ((row_64 (18 : Int32).toNatClampNeg) + 1)) = z := ⟨_, rfl⟩
              rw [hw_73] at hP hD
              refine lv_aload_n hx hb dX8_endRound_121 rfl (lv_at hl 1 rfl) ?_
              refine lv_bipush (v := 10) hx hb dX8_endRound_122 (by decide) ?_
              refine lv_dup2_11 hx hb dX8_endRound_124 rfl rfl ?_
              refine va_iald (D := D) hx hb hK hP 0 0 rfl rfl (vp_in_iff.mpr (by decide)) dX8_endRound_125 ?_
              refine lv_iconst (v := 1) hx hb dX8_endRound_126 (by decide) ?_
              refine lv_iadd hx hb dX8_endRound_127 ?_
              refine va_iast (D := D) hx hb hK hP hD hS 0 0 rfl rfl (vp_in_iff.mpr (by decide)) dX8_endRound_128 (fun H locs hP hD hS => ?_)
              have hP : va_P D vwCl [(rw, .inl (tc 0, 357, .inl (upd row_73 (10 : Int32).toNatClampNeg ((row_73 (10 : Int32).toNatClampNeg) + 1))))] H := hP
              have hD : va_D A [(rw, .inl (tc 0, 357, .inl (upd row_73 (10 : Int32).toNatClampNeg ((row_73 (10 : Int32).toNatClampNeg) + 1))))] := hD
              obtain ⟨row_74, hw_74⟩ : ∃ z, (upd row_73 (10 : Int32).toNatClampNeg ((row_73 (10 : Int32).toNatClampNeg) + 1)) = z := ⟨_, rfl⟩
              rw [hw_74] at hP hD
              refine lv_aload_n hx hb dX8_endRound_129 rfl (lv_at hl 1 rfl) ?_
              refine lv_bipush (v := 9) hx hb dX8_endRound_130 (by decide) ?_
              refine lv_dup2_11 hx hb dX8_endRound_132 rfl rfl ?_
              refine va_iald (D := D) hx hb hK hP 0 0 rfl rfl (vp_in_iff.mpr (by decide)) dX8_endRound_133 ?_
              refine lv_iconst (v := 1) hx hb dX8_endRound_134 (by decide) ?_
              refine lv_iadd hx hb dX8_endRound_135 ?_
              refine va_iast (D := D) hx hb hK hP hD hS 0 0 rfl rfl (vp_in_iff.mpr (by decide)) dX8_endRound_136 (fun H locs hP hD hS => ?_)
              have hP : va_P D vwCl [(rw, .inl (tc 0, 357, .inl (upd row_74 (9 : Int32).toNatClampNeg ((row_74 (9 : Int32).toNatClampNeg) + 1))))] H := hP
              have hD : va_D A [(rw, .inl (tc 0, 357, .inl (upd row_74 (9 : Int32).toNatClampNeg ((row_74 (9 : Int32).toNatClampNeg) + 1))))] := hD
              obtain ⟨row_75, hw_75⟩ : ∃ z, (upd row_74 (9 : Int32).toNatClampNeg ((row_74 (9 : Int32).toNatClampNeg) + 1)) = z := ⟨_, rfl⟩
              rw [hw_75] at hP hD
              refine lv_aload_n hx hb dX8_endRound_137 rfl (lv_at hl 1 rfl) ?_
              refine lv_bipush (v := 11) hx hb dX8_endRound_138 (by decide) ?_
              refine lv_iconst (v := 0) hx hb dX8_endRound_140 (by decide) ?_
              refine va_iast (D := D) hx hb hK hP hD hS 0 0 rfl rfl (vp_in_iff.mpr (by decide)) dX8_endRound_141 (fun H locs hP hD hS => ?_)
              have hP : va_P D vwCl [(rw, .inl (tc 0, 357, .inl (upd row_75 (11 : Int32).toNatClampNeg 0)))] H := hP
              have hD : va_D A [(rw, .inl (tc 0, 357, .inl (upd row_75 (11 : Int32).toNatClampNeg 0)))] := hD
              obtain ⟨row_76, hw_76⟩ : ∃ z, (upd row_75 (11 : Int32).toNatClampNeg 0) = z := ⟨_, rfl⟩
              rw [hw_76] at hP hD
              refine lv_aload_n hx hb dX8_endRound_142 rfl (lv_at hl 1 rfl) ?_
              refine lv_bipush (v := 12) hx hb dX8_endRound_143 (by decide) ?_
              refine lv_iconst (v := 0) hx hb dX8_endRound_145 (by decide) ?_
              refine va_iast (D := D) hx hb hK hP hD hS 0 0 rfl rfl (vp_in_iff.mpr (by decide)) dX8_endRound_146 (fun H locs hP hD hS => ?_)
              have hP : va_P D vwCl [(rw, .inl (tc 0, 357, .inl (upd row_76 (12 : Int32).toNatClampNeg 0)))] H := hP
              have hD : va_D A [(rw, .inl (tc 0, 357, .inl (upd row_76 (12 : Int32).toNatClampNeg 0)))] := hD
              obtain ⟨row_77, hw_77⟩ : ∃ z, (upd row_76 (12 : Int32).toNatClampNeg 0) = z := ⟨_, rfl⟩
              rw [hw_77] at hP hD
              refine lv_aload_n hx hb dX8_endRound_147 rfl (lv_at hl 1 rfl) ?_
              refine lv_bipush (v := 13) hx hb dX8_endRound_148 (by decide) ?_
              refine lv_iconst (v := 0) hx hb dX8_endRound_150 (by decide) ?_
              refine va_iast (D := D) hx hb hK hP hD hS 0 0 rfl rfl (vp_in_iff.mpr (by decide)) dX8_endRound_151 (fun H locs hP hD hS => ?_)
              have hP : va_P D vwCl [(rw, .inl (tc 0, 357, .inl (upd row_77 (13 : Int32).toNatClampNeg 0)))] H := hP
              have hD : va_D A [(rw, .inl (tc 0, 357, .inl (upd row_77 (13 : Int32).toNatClampNeg 0)))] := hD
              obtain ⟨row_78, hw_78⟩ : ∃ z, (upd row_77 (13 : Int32).toNatClampNeg 0) = z := ⟨_, rfl⟩
              rw [hw_78] at hP hD
              refine lv_aload_n hx hb dX8_endRound_152 rfl (lv_at hl 1 rfl) ?_
              refine lv_bipush (v := 14) hx hb dX8_endRound_153 (by decide) ?_
              refine lv_iconst (v := 0) hx hb dX8_endRound_155 (by decide) ?_
              refine va_iast (D := D) hx hb hK hP hD hS 0 0 rfl rfl (vp_in_iff.mpr (by decide)) dX8_endRound_156 (fun H locs hP hD hS => ?_)
              have hP : va_P D vwCl [(rw, .inl (tc 0, 357, .inl (upd row_78 (14 : Int32).toNatClampNeg 0)))] H := hP
              have hD : va_D A [(rw, .inl (tc 0, 357, .inl (upd row_78 (14 : Int32).toNatClampNeg 0)))] := hD
              obtain ⟨row_79, hw_79⟩ : ∃ z, (upd row_78 (14 : Int32).toNatClampNeg 0) = z := ⟨_, rfl⟩
              rw [hw_79] at hP hD
              exact hret _ _ row_79 _ _ (by rw [hI_13, mX8_endRound_L13_s, mX8_endRound_S13]; (try dsimp only); rw [if_pos c_7]; rw [hw_8]; (try dsimp only); rw [if_neg c_9]; rw [hw_63]; (try dsimp only); rw [hw_64]; (try dsimp only); rw [if_neg c_65]; rw [hw_73]; (try dsimp only); rw [hw_74]; (try dsimp only); rw [hw_75]; (try dsimp only); rw [hw_76]; (try dsimp only); rw [hw_77]; (try dsimp only); rw [hw_78]; (try dsimp only); rw [hw_79]; (try dsimp only); (first | done | rfl)) (hP.sub [0] rfl) (hD.sub [0] (by decide) rfl) hS dX8_endRound_157
        · refine lv_aload_n hx hb dX8_endRound_18 rfl (lv_at hl 1 rfl) ?_
          refine lv_sipush (v := 327) hx hb dX8_endRound_19 (by decide) ?_
          refine lv_iload_n hx hb dX8_endRound_22 rfl (lv_at hl 0 rfl) ?_
          refine lv_iadd hx hb dX8_endRound_23 ?_
          refine lv_aload_n hx hb dX8_endRound_24 rfl (lv_at hl 1 rfl) ?_
          refine lv_sipush (v := 327) hx hb dX8_endRound_25 (by decide) ?_
          refine lv_iload_n hx hb dX8_endRound_28 rfl (lv_at hl 0 rfl) ?_
          refine lv_iadd hx hb dX8_endRound_29 ?_
          refine lv_iconst (v := 3) hx hb dX8_endRound_30 (by decide) ?_
          refine lv_isub hx hb dX8_endRound_31 ?_
          refine va_iald (D := D) hx hb hK hP 0 0 rfl rfl (by have l_0 : (0 : Int32).toInt = 0 := (by decide); have l_1 : (1 : Int32).toInt = 1 := (by decide); have l_2 : (2 : Int32).toInt = 2 := (by decide); have l_3 : (3 : Int32).toInt = 3 := (by decide); have l_327 : (327 : Int32).toInt = 327 := (by decide); have l_4 : (4 : Int32).toInt = 4 := (by decide); have qc_7 := c_7; (try simp only [fc_le, fc_lt, fc_eq] at qc_7); have a_2 := fc_kadd (x := x1h13) (k := 327) (n := 327) (by decide) (by omega) (by omega); have a_2 := fc_subk (x := (327 + x1h13)) (k := 3) (n := 3) (by decide) (by omega) (by omega); rw [vp_in_iff]; omega) dX8_endRound_32 ?_
          refine va_iast (D := D) hx hb hK hP hD hS 0 0 rfl rfl (by have l_0 : (0 : Int32).toInt = 0 := (by decide); have l_1 : (1 : Int32).toInt = 1 := (by decide); have l_2 : (2 : Int32).toInt = 2 := (by decide); have l_3 : (3 : Int32).toInt = 3 := (by decide); have l_327 : (327 : Int32).toInt = 327 := (by decide); have l_4 : (4 : Int32).toInt = 4 := (by decide); have qc_7 := c_7; (try simp only [fc_le, fc_lt, fc_eq] at qc_7); have a_1 := fc_kadd (x := x1h13) (k := 327) (n := 327) (by decide) (by omega) (by omega); rw [vp_in_iff]; omega) dX8_endRound_33 (fun H locs hP hD hS => ?_)
          have hP : va_P D vwCl [(rw, .inl (tc 0, 357, .inl (upd rowh13 ((327 + x1h13) : Int32).toNatClampNeg (rowh13 (((327 + x1h13) - 3) : Int32).toNatClampNeg))))] H := hP
          have hD : va_D A [(rw, .inl (tc 0, 357, .inl (upd rowh13 ((327 + x1h13) : Int32).toNatClampNeg (rowh13 (((327 + x1h13) - 3) : Int32).toNatClampNeg))))] := hD
          obtain ⟨row_80, hw_80⟩ : ∃ z, (upd rowh13 ((327 + x1h13) : Int32).toNatClampNeg (rowh13 (((327 + x1h13) - 3) : Int32).toNatClampNeg)) = z := ⟨_, rfl⟩
          rw [hw_80] at hP hD
          refine lv_iinc (v := (x1h13 + (-1))) (lv' := [(1, .int (x1h13 + (-1))), (0, .ref rw)]) hx hb dX8_endRound_34 hl (k := 0) rfl rfl (by decide) rfl (fun ls hl => ?_)
          refine lv_goto (tgt := 13) hx hb dX8_endRound_37 (by decide) ?_
          exact ih_13 (i_13 - 1) (x1h13 + (-1)) row_80 (by obtain ⟨j, ej⟩ : ∃ j, i_13 = j + 1 := ⟨i_13 - 1, by have l_0 : (0 : Int32).toInt = 0 := (by decide); have l_1 : (1 : Int32).toInt = 1 := (by decide); have l_2 : (2 : Int32).toInt = 2 := (by decide); have l_3 : (3 : Int32).toInt = 3 := (by decide); have l_4 : (4 : Int32).toInt = 4 := (by decide); have qc_7 := c_7; (try simp only [fc_le, fc_lt, fc_eq] at qc_7); skip; omega⟩; rw [hb_13, ej]; exact pk_m1 j) (by have l_0 : (0 : Int32).toInt = 0 := (by decide); have l_1 : (1 : Int32).toInt = 1 := (by decide); have l_2 : (2 : Int32).toInt = 2 := (by decide); have l_3 : (3 : Int32).toInt = 3 := (by decide); have l_4 : (4 : Int32).toInt = 4 := (by decide); have qc_7 := c_7; (try simp only [fc_le, fc_lt, fc_eq] at qc_7); skip; omega) (by rw [hI_13, mX8_endRound_L13_s, mX8_endRound_S13]; (try dsimp only); rw [if_neg c_7]; rw [hw_80]; (try dsimp only); (first | done | rfl)) _ _ (hP.sub [0] rfl) (hD.sub [0] (by decide) rfl) hS ls (lv_sub hl [0, 1] rfl)
    exact loop_13 30 29 29 row rfl (by omega) (by rw [mX8_endRound]; (try dsimp only); rw [if_neg c_1]; (first | done | rfl)) _ _ (hP.sub [0] rfl) (hD.sub [0] (by decide) rfl) hS ls (lv_sub hl [0, 1] rfl)
theorem hd_X8_copy : yX8_copy.cls = RX8 ∧ yX8_copy.cls ≠ "java/lang/invoke/MethodHandle" ∧ yX8_copy.cls ≠ "java/lang/invoke/VarHandle" ∧ (parseMethodDescriptor yX8_copy.desc).map (fun d => d.parameters.length) = some 5 := by decide +kernel
theorem hd_X8_copyn : yX8_copy.cls ≠ "java/lang/invoke/MethodHandle" ∧ yX8_copy.cls ≠ "java/lang/invoke/VarHandle" ∧ (parseMethodDescriptor yX8_copy.desc).map (fun d => d.parameters.length) = some 5 := by decide +kernel
noncomputable def mX8_dropIn_S19 (row : Nat → Int32) (p1 : Int32) (r_1 : Int32) (r_2 : Int32) (ih_19 : Int32 → (Nat → Int32) → Int32 × (Nat → Int32)) (x4h19 : Int32) (rowh19 : Nat → Int32) : Int32 × (Nat → Int32) :=
  if (rowh19 (3 : Int32).toNatClampNeg) ≤ x4h19 then
    let r_4 := mX8_keptAt (p1 + 1) 0
    let r_5 := mX8_keptAt p1 0
    let f_6 := mX8_copy_same 357 rowh19 r_4 r_5 (5 * (((rowh19 (16 : Int32).toNatClampNeg) - 1) - p1))
    let row_7 := (upd f_6 (16 : Int32).toNatClampNeg ((f_6 (16 : Int32).toNatClampNeg) - 1))
    let row_8 := (upd row_7 (6 : Int32).toNatClampNeg ((row_7 (6 : Int32).toNatClampNeg) + 1))
    ((row r_2.toNatClampNeg), row_8)
  else
    if (rowh19 ((19 + x4h19) : Int32).toNatClampNeg) = (row r_1.toNatClampNeg) then
      let row_11 := (upd rowh19 ((19 + x4h19) : Int32).toNatClampNeg (-2))
      ih_19 (x4h19 + 1) row_11
    else
      let row_10 := (upd rowh19 ((19 + x4h19) : Int32).toNatClampNeg (rowh19 ((19 + x4h19) : Int32).toNatClampNeg))
      ih_19 (x4h19 + 1) row_10
noncomputable def mX8_dropIn_L19 (row : Nat → Int32) (p1 : Int32) (r_1 : Int32) (r_2 : Int32) (k : Nat) : Int32 → (Nat → Int32) → Int32 × (Nat → Int32) := Nat.rec (motive := fun _ => Int32 → (Nat → Int32) → Int32 × (Nat → Int32)) (fun x4h19 rowh19 => (0, rowh19)) (fun _ ih => mX8_dropIn_S19 row p1 r_1 r_2 ih) k
theorem mX8_dropIn_L19_z (row : Nat → Int32) (p1 : Int32) (r_1 : Int32) (r_2 : Int32) (x4h19 : Int32) (rowh19 : Nat → Int32) : mX8_dropIn_L19 row p1 r_1 r_2 0 x4h19 rowh19 = (0, rowh19) := rfl
theorem mX8_dropIn_L19_s (row : Nat → Int32) (p1 : Int32) (r_1 : Int32) (r_2 : Int32) (k : Nat) (x4h19 : Int32) (rowh19 : Nat → Int32) : mX8_dropIn_L19 row p1 r_1 r_2 (k + 1) x4h19 rowh19 = mX8_dropIn_S19 row p1 r_1 r_2 (mX8_dropIn_L19 row p1 r_1 r_2 k) x4h19 rowh19 := rfl
noncomputable def mX8_dropIn (row : Nat → Int32) (p1 : Int32) : Int32 × (Nat → Int32) :=
  let r_1 := mX8_keptAt p1 0
  let r_2 := mX8_keptAt p1 2
  mX8_dropIn_L19 row p1 r_1 r_2 49 0 row
abbrev rmX8_dropIn : Room := { frames := 1, cells := 0, slots := 0, locals := 25 }
set_option maxHeartbeats 4000000 in
set_option maxRecDepth 100000 in
theorem c_X8_dropIn (l : Launch) (D : va_G) (tc : Nat → ClassId) (rw : Nat) (row : Nat → Int32) (p1 : Int32) (sz : Nat) (h3 : 8 ≤ (row (3 : Int32).toNatClampNeg).toInt ∧ (row (3 : Int32).toNatClampNeg).toInt ≤ 48) (h16 : (row (16 : Int32).toNatClampNeg).toInt ≤ 48) (hi : 0 ≤ p1.toInt ∧ p1.toInt < (row (16 : Int32).toNatClampNeg).toInt) : Met l yX8_dropIn wsX8_dropIn rmX8_dropIn (va_Pc [.ref rw, .int p1] (fcB D tc [(rw, .inl (tc 0, 357, .inl row))] sz)) (va_Qi (fun (r : Int32) (u : Nat → Int32) => mX8_dropIn row p1 = (r, u)) (fun u t => fcO D (va_A [(rw, .inl (tc 0, 357, .inl row))] sz) ((fun (u : Nat → Int32) => [(rw, .inl (tc 0, 357, .inl u))]) u) t) (va_A [(rw, .inl (tc 0, 357, .inl row))] sz)) 0 0 (va_A [(rw, .inl (tc 0, 357, .inl row))] sz) := by
  refine fc_ofWi (own := RX8) (cc := cX8_dropIn) (maxL := 5) (W1 := (fun (u : Nat → Int32) => [(rw, .inl (tc 0, 357, .inl u))])) rfl (by decide) rfl (Nat.le_of_ble_eq_true rfl) ?_
  intro p e s m args below meth c A Q hx hb hml hown hts hK hE hP hD hS hA hin hret ls hl
  have hl : lv_has ls 5 [(0, .ref rw), (1, .int p1)] := hl
  refine lv_aload_n hx hb dX8_dropIn_0 rfl (lv_at hl 0 rfl) ?_
  refine lv_iload_n hx hb dX8_dropIn_1 rfl (lv_at hl 1 rfl) ?_
  refine lv_iconst (v := 0) hx hb dX8_dropIn_2 (by decide) ?_
  refine fc_goi (isC := []) (isR := [0]) (wc := []) (wr := [(rw, .inl (tc 0, 357, .inl row))]) hP hD hS hA rfl rfl (by decide) (by decide) (fc_runS (isC := []) (As := [.int p1, .int 0]) (rest := [.ref rw]) hx hb hml hown hts hK hE hP hD hS hA rfl (by decide) (c_X8_keptAt l D tc p1 0 _ ) (cwS 2 hts gX8_dropIn_X8_keptAt rfl rfl rfl hd_X8_keptAt ⟨Nat.le_of_ble_eq_true rfl, Nat.le_of_ble_eq_true rfl⟩) rfl hl.1 rfl (Nat.le_of_ble_eq_true rfl) dX8_dropIn_3 ⟨Nat.le_of_ble_eq_true rfl, Nat.le_of_ble_eq_true rfl⟩) (fun r_1 u_1 H locs hw_1 hP hD hS => ?_)
  try dsimp only at hw_1
  have hP : va_P D vwCl [(rw, .inl (tc 0, 357, .inl row))] H := hP
  have hD : va_D A [(rw, .inl (tc 0, 357, .inl row))] := hD
  have hf_1 := fx_keptAt hw_1 (by omega) (by decide)
  refine va_iald (D := D) hx hb hK hP 0 0 rfl rfl (by have l_0 : (0 : Int32).toInt = 0 := (by decide); have l_1 : (1 : Int32).toInt = 1 := (by decide); have l_2 : (2 : Int32).toInt = 2 := (by decide); have l_3 : (3 : Int32).toInt = 3 := (by decide); have l_4 : (4 : Int32).toInt = 4 := (by decide); rw [vp_in_iff]; omega) dX8_dropIn_6 ?_
  refine lv_istore_n (lv' := [(2, .int (row r_1.toNatClampNeg)), (0, .ref rw), (1, .int p1)]) hx hb dX8_dropIn_7 rfl hl (by decide) rfl (fun ls hl => ?_)
  refine lv_aload_n hx hb dX8_dropIn_8 rfl (lv_at hl 1 rfl) ?_
  refine lv_iload_n hx hb dX8_dropIn_9 rfl (lv_at hl 2 rfl) ?_
  refine lv_iconst (v := 2) hx hb dX8_dropIn_10 (by decide) ?_
  refine fc_goi (isC := []) (isR := [0]) (wc := []) (wr := [(rw, .inl (tc 0, 357, .inl row))]) hP hD hS hA rfl rfl (by decide) (by decide) (fc_runS (isC := []) (As := [.int p1, .int 2]) (rest := [.ref rw]) hx hb hml hown hts hK hE hP hD hS hA rfl (by decide) (c_X8_keptAt l D tc p1 2 _ ) (cwS 2 hts gX8_dropIn_X8_keptAt rfl rfl rfl hd_X8_keptAt ⟨Nat.le_of_ble_eq_true rfl, Nat.le_of_ble_eq_true rfl⟩) rfl hl.1 rfl (Nat.le_of_ble_eq_true rfl) dX8_dropIn_11 ⟨Nat.le_of_ble_eq_true rfl, Nat.le_of_ble_eq_true rfl⟩) (fun r_2 u_2 H locs hw_2 hP hD hS => ?_)
  try dsimp only at hw_2
  have hP : va_P D vwCl [(rw, .inl (tc 0, 357, .inl row))] H := hP
  have hD : va_D A [(rw, .inl (tc 0, 357, .inl row))] := hD
  have hf_2 := fx_keptAt hw_2 (by omega) (by decide)
  refine va_iald (D := D) hx hb hK hP 0 0 rfl rfl (by have l_0 : (0 : Int32).toInt = 0 := (by decide); have l_1 : (1 : Int32).toInt = 1 := (by decide); have l_2 : (2 : Int32).toInt = 2 := (by decide); have l_3 : (3 : Int32).toInt = 3 := (by decide); have l_4 : (4 : Int32).toInt = 4 := (by decide); rw [vp_in_iff]; omega) dX8_dropIn_14 ?_
  refine lv_istore_n (lv' := [(3, .int (row r_2.toNatClampNeg)), (2, .int (row r_1.toNatClampNeg)), (0, .ref rw), (1, .int p1)]) hx hb dX8_dropIn_15 rfl hl (by decide) rfl (fun ls hl => ?_)
  refine lv_iconst (v := 0) hx hb dX8_dropIn_16 (by decide) ?_
  refine lv_istore (lv' := [(4, .int 0), (3, .int (row r_2.toNatClampNeg)), (2, .int (row r_1.toNatClampNeg)), (0, .ref rw), (1, .int p1)]) hx hb dX8_dropIn_17 hl (by decide) rfl (fun ls hl => ?_)
  have loop_19 : ∀ (k_19 : Nat) (i_19 : Nat) (x4h19 : Int32) (rowh19 : Nat → Int32) (hb_19 : x4h19 = nI i_19) (hm_19 : i_19 ≤ 48 ∧ 48 < i_19 + k_19) (w3_19 : (rowh19 (3 : Int32).toNatClampNeg).toInt = (row (3 : Int32).toNatClampNeg).toInt) (w16_19 : (rowh19 (16 : Int32).toNatClampNeg).toInt = (row (16 : Int32).toNatClampNeg).toInt) (hI_19 : mX8_dropIn row p1 = mX8_dropIn_L19 row p1 r_1 r_2 k_19 x4h19 rowh19) (H : Heap) (locs : List Loc), va_P D vwCl [(rw, .inl (tc 0, 357, .inl rowh19))] H → va_D A [(rw, .inl (tc 0, 357, .inl rowh19))] → va_S A s.heap H locs → ∀ ls : Array Slot, lv_has ls 5 [(4, .int x4h19), (3, .int (row r_2.toNatClampNeg)), (2, .int (row r_1.toNatClampNeg)), (0, .ref rw), (1, .int p1)] → W p l e rmX8_dropIn s m args below meth c H locs 0 0 Q (F0 m 19 ls []) := by
    intro k_19
    induction k_19 with
    | zero =>
      intro i_19 x4h19 rowh19 hb_19 hm_19 w3_19 w16_19 hI_19 H locs hP hD hS ls hl
      exact absurd hm_19 (by omega)
    | succ k_19 ih_19 =>
      intro i_19 x4h19 rowh19 hb_19 hm_19 w3_19 w16_19 hI_19 H locs hP hD hS ls hl
      have zz_19 := fc_nI (n := i_19) (by omega)
      rw [← hb_19] at zz_19
      refine lv_iload hx hb dX8_dropIn_19 (lv_at hl 0 rfl) ?_
      refine lv_aload_n hx hb dX8_dropIn_21 rfl (lv_at hl 3 rfl) ?_
      refine lv_iconst (v := 3) hx hb dX8_dropIn_22 (by decide) ?_
      refine va_iald (D := D) hx hb hK hP 0 0 rfl rfl (vp_in_iff.mpr (by decide)) dX8_dropIn_23 ?_
      refine lv_icmp_ge (tgt := 63) hx hb dX8_dropIn_24 (by decide) (fun c_3 => ?_) (fun c_3 => ?_)
      · refine lv_aload_n hx hb dX8_dropIn_63 rfl (lv_at hl 3 rfl) ?_
        refine lv_iload_n hx hb dX8_dropIn_64 rfl (lv_at hl 4 rfl) ?_
        refine lv_iconst (v := 1) hx hb dX8_dropIn_65 (by decide) ?_
        refine lv_iadd hx hb dX8_dropIn_66 ?_
        refine lv_iconst (v := 0) hx hb dX8_dropIn_67 (by decide) ?_
        have b1 := fc_addk (x := p1) (k := 1) (n := 1) (by decide) (by omega) (by omega)
        refine fc_goi (isC := []) (isR := [0]) (wc := []) (wr := [(rw, .inl (tc 0, 357, .inl rowh19))]) hP hD hS hA rfl rfl (by decide) (by decide) (fc_runS (isC := []) (As := [.int (p1 + 1), .int 0]) (rest := [.ref rw]) hx hb hml hown hts hK hE hP hD hS hA rfl (by decide) (c_X8_keptAt l D tc (p1 + 1) 0 _ ) (cwS 2 hts gX8_dropIn_X8_keptAt rfl rfl rfl hd_X8_keptAt ⟨Nat.le_of_ble_eq_true rfl, Nat.le_of_ble_eq_true rfl⟩) rfl hl.1 rfl (Nat.le_of_ble_eq_true rfl) dX8_dropIn_68 ⟨Nat.le_of_ble_eq_true rfl, Nat.le_of_ble_eq_true rfl⟩) (fun r_4 u_4 H locs hw_4 hP hD hS => ?_)
        try dsimp only at hw_4
        have hP : va_P D vwCl [(rw, .inl (tc 0, 357, .inl rowh19))] H := hP
        have hD : va_D A [(rw, .inl (tc 0, 357, .inl rowh19))] := hD
        have hf_4 := fx_keptAt hw_4 (by omega) (by decide)
        refine lv_aload_n hx hb dX8_dropIn_71 rfl (lv_at hl 3 rfl) ?_
        refine lv_iload_n hx hb dX8_dropIn_72 rfl (lv_at hl 4 rfl) ?_
        refine lv_iconst (v := 0) hx hb dX8_dropIn_73 (by decide) ?_
        refine fc_goi (isC := []) (isR := [0]) (wc := []) (wr := [(rw, .inl (tc 0, 357, .inl rowh19))]) hP hD hS hA rfl rfl (by decide) (by decide) (fc_runS (isC := []) (As := [.int p1, .int 0]) (rest := [.ref rw, .int r_4, .ref rw]) hx hb hml hown hts hK hE hP hD hS hA rfl (by decide) (c_X8_keptAt l D tc p1 0 _ ) (cwS 2 hts gX8_dropIn_X8_keptAt rfl rfl rfl hd_X8_keptAt ⟨Nat.le_of_ble_eq_true rfl, Nat.le_of_ble_eq_true rfl⟩) rfl hl.1 rfl (Nat.le_of_ble_eq_true rfl) dX8_dropIn_74 ⟨Nat.le_of_ble_eq_true rfl, Nat.le_of_ble_eq_true rfl⟩) (fun r_5 u_5 H locs hw_5 hP hD hS => ?_)
        try dsimp only at hw_5
        have hP : va_P D vwCl [(rw, .inl (tc 0, 357, .inl rowh19))] H := hP
        have hD : va_D A [(rw, .inl (tc 0, 357, .inl rowh19))] := hD
        have hf_5 := fx_keptAt hw_5 (by omega) (by decide)
        refine lv_iconst (v := 5) hx hb dX8_dropIn_77 (by decide) ?_
        refine lv_aload_n hx hb dX8_dropIn_78 rfl (lv_at hl 3 rfl) ?_
        refine lv_bipush (v := 16) hx hb dX8_dropIn_79 (by decide) ?_
        refine va_iald (D := D) hx hb hK hP 0 0 rfl rfl (vp_in_iff.mpr (by decide)) dX8_dropIn_81 ?_
        refine lv_iconst (v := 1) hx hb dX8_dropIn_82 (by decide) ?_
        refine lv_isub hx hb dX8_dropIn_83 ?_
        refine lv_iload_n hx hb dX8_dropIn_84 rfl (lv_at hl 4 rfl) ?_
        refine lv_isub hx hb dX8_dropIn_85 ?_
        refine lv_imul hx hb dX8_dropIn_86 ?_
        have b2 := fc_subk (x := (rowh19 (16 : Int32).toNatClampNeg)) (k := 1) (n := 1) (by decide) (by omega) (by omega)
        have b3 := fc_sub (x := (rowh19 (16 : Int32).toNatClampNeg) - 1) (y := p1) (by omega) (by omega)
        have b4 := fc_kmul (x := (rowh19 (16 : Int32).toNatClampNeg) - 1 - p1) (k := 5) (n := 5) (by decide) (by omega) (by omega)
        have l0 : (0 : Int32).toInt = 0 := by decide
        refine fc_gov (isC := [0]) (isR := []) (wc := [(rw, .inl (tc 0, 357, .inl rowh19))]) (wr := []) hP hD hS hA rfl rfl (by decide) (by decide) (fc_runS (isC := [0]) (As := [.ref rw, .int r_4, .ref rw, .int r_5, .int (5 * (((rowh19 (16 : Int32).toNatClampNeg) - 1) - p1))]) (rest := []) hx hb hml hown hts hK hE hP hD hS hA rfl (by decide) (c_X8_copy_same l D tc rw 357 rowh19 r_4 r_5 (5 * (((rowh19 (16 : Int32).toNatClampNeg) - 1) - p1)) _ (by have l_0 : (0 : Int32).toInt = 0 := (by decide); have l_1 : (1 : Int32).toInt = 1 := (by decide); have l_16 : (16 : Int32).toInt = 16 := (by decide); have l_2 : (2 : Int32).toInt = 2 := (by decide); have l_3 : (3 : Int32).toInt = 3 := (by decide); have l_357 : (357 : Int32).toInt = 357 := (by decide); have l_4 : (4 : Int32).toInt = 4 := (by decide); have l_5 : (5 : Int32).toInt = 5 := (by decide); have qc_3 := c_3; (try simp only [fc_le, fc_lt, fc_eq] at qc_3); have a_3 := fc_subk (x := (rowh19 (16 : Int32).toNatClampNeg)) (k := 1) (n := 1) (by decide) (by omega) (by omega); have a_3 := fc_sub (x := ((rowh19 (16 : Int32).toNatClampNeg) - 1)) (y := p1) (by omega) (by omega); have a_3 := fc_kmul (x := (((rowh19 (16 : Int32).toNatClampNeg) - 1) - p1)) (k := 5) (n := 5) (by decide) (by omega) (by omega); (try simp only [fc_le, fc_lt, fc_eq]); omega) (by have l_0 : (0 : Int32).toInt = 0 := (by decide); have l_1 : (1 : Int32).toInt = 1 := (by decide); have l_16 : (16 : Int32).toInt = 16 := (by decide); have l_2 : (2 : Int32).toInt = 2 := (by decide); have l_3 : (3 : Int32).toInt = 3 := (by decide); have l_357 : (357 : Int32).toInt = 357 := (by decide); have l_4 : (4 : Int32).toInt = 4 := (by decide); have l_5 : (5 : Int32).toInt = 5 := (by decide); have qc_3 := c_3; (try simp only [fc_le, fc_lt, fc_eq] at qc_3); have a_3 := fc_subk (x := (rowh19 (16 : Int32).toNatClampNeg)) (k := 1) (n := 1) (by decide) (by omega) (by omega); have a_3 := fc_sub (x := ((rowh19 (16 : Int32).toNatClampNeg) - 1)) (y := p1) (by omega) (by omega); have a_3 := fc_kmul (x := (((rowh19 (16 : Int32).toNatClampNeg) - 1) - p1)) (k := 5) (n := 5) (by decide) (by omega) (by omega); (try simp only [fc_le, fc_lt, fc_eq]); omega) (by have l_0 : (0 : Int32).toInt = 0 := (by decide); have l_1 : (1 : Int32).toInt = 1 := (by decide); have l_16 : (16 : Int32).toInt = 16 := (by decide); have l_2 : (2 : Int32).toInt = 2 := (by decide); have l_3 : (3 : Int32).toInt = 3 := (by decide); have l_357 : (357 : Int32).toInt = 357 := (by decide); have l_4 : (4 : Int32).toInt = 4 := (by decide); have l_5 : (5 : Int32).toInt = 5 := (by decide); have qc_3 := c_3; (try simp only [fc_le, fc_lt, fc_eq] at qc_3); have a_3 := fc_subk (x := (rowh19 (16 : Int32).toNatClampNeg)) (k := 1) (n := 1) (by decide) (by omega) (by omega); have a_3 := fc_sub (x := ((rowh19 (16 : Int32).toNatClampNeg) - 1)) (y := p1) (by omega) (by omega); have a_3 := fc_kmul (x := (((rowh19 (16 : Int32).toNatClampNeg) - 1) - p1)) (k := 5) (n := 5) (by decide) (by omega) (by omega); (try simp only [fc_le, fc_lt, fc_eq]); omega)) (cwS 5 hts gX8_dropIn_X8_copy rfl rfl rfl hd_X8_copy ⟨Nat.le_of_ble_eq_true rfl, Nat.le_of_ble_eq_true rfl⟩) rfl hl.1 rfl (Nat.le_of_ble_eq_true rfl) dX8_dropIn_87 ⟨Nat.le_of_ble_eq_true rfl, Nat.le_of_ble_eq_true rfl⟩) (fun u_6 H locs hw_6 hP hD hS => ?_)
        obtain ⟨f_6, rfl⟩ : ∃ z, z = u_6 := ⟨_, rfl⟩
        try dsimp only at hw_6
        have hP : va_P D vwCl [(rw, .inl (tc 0, 357, .inl f_6))] H := hP
        have hD : va_D A [(rw, .inl (tc 0, 357, .inl f_6))] := hD
        have hcp_6 := fx_copy_same hw_6 (by omega) (by omega) (by omega)
        have hv16_6 : (f_6 (16 : Int32).toNatClampNeg).toInt = (rowh19 (16 : Int32).toNatClampNeg).toInt := by rw [hcp_6, pk_cpy_out (by have l1 : (16 : Int32).toInt = 16 := (by decide); simp only [fc_cl]; omega)]
        refine lv_aload_n hx hb dX8_dropIn_90 rfl (lv_at hl 3 rfl) ?_
        refine lv_bipush (v := 16) hx hb dX8_dropIn_91 (by decide) ?_
        refine lv_dup2_11 hx hb dX8_dropIn_93 rfl rfl ?_
        refine va_iald (D := D) hx hb hK hP 0 0 rfl rfl (vp_in_iff.mpr (by decide)) dX8_dropIn_94 ?_
        refine lv_iconst (v := 1) hx hb dX8_dropIn_95 (by decide) ?_
        refine lv_isub hx hb dX8_dropIn_96 ?_
        refine va_iast (D := D) hx hb hK hP hD hS 0 0 rfl rfl (vp_in_iff.mpr (by decide)) dX8_dropIn_97 (fun H locs hP hD hS => ?_)
        have hP : va_P D vwCl [(rw, .inl (tc 0, 357, .inl (upd f_6 (16 : Int32).toNatClampNeg ((f_6 (16 : Int32).toNatClampNeg) - 1))))] H := hP
        have hD : va_D A [(rw, .inl (tc 0, 357, .inl (upd f_6 (16 : Int32).toNatClampNeg ((f_6 (16 : Int32).toNatClampNeg) - 1))))] := hD
        obtain ⟨row_7, hw_7⟩ : ∃ z, (upd f_6 (16 : Int32).toNatClampNeg ((f_6 (16 : Int32).toNatClampNeg) - 1)) = z := ⟨_, rfl⟩
        rw [hw_7] at hP hD
        have hv3_7 : (row_7 (3 : Int32).toNatClampNeg).toInt = (f_6 (3 : Int32).toNatClampNeg).toInt := by rw [← hw_7, pk_un (by decide)]
        have hv16_7 : (row_7 (16 : Int32).toNatClampNeg).toInt = (((f_6 (16 : Int32).toNatClampNeg) - 1)).toInt := by rw [← hw_7, pk_us]
        have av7_1 := fc_subk (x := (f_6 (16 : Int32).toNatClampNeg)) (k := 1) (n := 1) (by decide) (by omega) (by omega)
        refine lv_aload_n hx hb dX8_dropIn_98 rfl (lv_at hl 3 rfl) ?_
        refine lv_bipush (v := 6) hx hb dX8_dropIn_99 (by decide) ?_
        refine lv_dup2_11 hx hb dX8_dropIn_101 rfl rfl ?_
        refine va_iald (D := D) hx hb hK hP 0 0 rfl rfl (vp_in_iff.mpr (by decide)) dX8_dropIn_102 ?_
        refine lv_iconst (v := 1) hx hb dX8_dropIn_103 (by decide) ?_
        refine lv_iadd hx hb dX8_dropIn_104 ?_
        refine va_iast (D := D) hx hb hK hP hD hS 0 0 rfl rfl (vp_in_iff.mpr (by decide)) dX8_dropIn_105 (fun H locs hP hD hS => ?_)
        have hP : va_P D vwCl [(rw, .inl (tc 0, 357, .inl (upd row_7 (6 : Int32).toNatClampNeg ((row_7 (6 : Int32).toNatClampNeg) + 1))))] H := hP
        have hD : va_D A [(rw, .inl (tc 0, 357, .inl (upd row_7 (6 : Int32).toNatClampNeg ((row_7 (6 : Int32).toNatClampNeg) + 1))))] := hD
        obtain ⟨row_8, hw_8⟩ : ∃ z, (upd row_7 (6 : Int32).toNatClampNeg ((row_7 (6 : Int32).toNatClampNeg) + 1)) = z := ⟨_, rfl⟩
        rw [hw_8] at hP hD
        have hv3_8 : (row_8 (3 : Int32).toNatClampNeg).toInt = (row_7 (3 : Int32).toNatClampNeg).toInt := by rw [← hw_8, pk_un (by decide)]
        have hv16_8 : (row_8 (16 : Int32).toNatClampNeg).toInt = (row_7 (16 : Int32).toNatClampNeg).toInt := by rw [← hw_8, pk_un (by decide)]
        refine lv_iload_n hx hb dX8_dropIn_106 rfl (lv_at hl 1 rfl) ?_
        exact hret _ _ (row r_2.toNatClampNeg) row_8 _ _ (by rw [hI_19, mX8_dropIn_L19_s, mX8_dropIn_S19]; (try dsimp only); rw [if_pos c_3]; rw [hw_4]; (try dsimp only); rw [hw_5]; (try dsimp only); rw [hw_6]; (try dsimp only); rw [hw_7]; (try dsimp only); rw [hw_8]; (try dsimp only); (first | done | rfl)) (hP.sub [0] rfl) (hD.sub [0] (by decide) rfl) hS dX8_dropIn_107
      · refine lv_aload_n hx hb dX8_dropIn_27 rfl (lv_at hl 3 rfl) ?_
        refine lv_bipush (v := 19) hx hb dX8_dropIn_28 (by decide) ?_
        refine lv_iload hx hb dX8_dropIn_30 (lv_at hl 0 rfl) ?_
        refine lv_iadd hx hb dX8_dropIn_32 ?_
        refine lv_aload_n hx hb dX8_dropIn_33 rfl (lv_at hl 3 rfl) ?_
        refine lv_bipush (v := 19) hx hb dX8_dropIn_34 (by decide) ?_
        refine lv_iload hx hb dX8_dropIn_36 (lv_at hl 0 rfl) ?_
        refine lv_iadd hx hb dX8_dropIn_38 ?_
        refine va_iald (D := D) hx hb hK hP 0 0 rfl rfl (by have l_0 : (0 : Int32).toInt = 0 := (by decide); have l_1 : (1 : Int32).toInt = 1 := (by decide); have l_19 : (19 : Int32).toInt = 19 := (by decide); have l_2 : (2 : Int32).toInt = 2 := (by decide); have l_3 : (3 : Int32).toInt = 3 := (by decide); have l_4 : (4 : Int32).toInt = 4 := (by decide); have qc_3 := c_3; (try simp only [fc_le, fc_lt, fc_eq] at qc_3); have a_1 := fc_kadd (x := x4h19) (k := 19) (n := 19) (by decide) (by omega) (by omega); rw [vp_in_iff]; omega) dX8_dropIn_39 ?_
        refine lv_iload_n hx hb dX8_dropIn_40 rfl (lv_at hl 2 rfl) ?_
        refine lv_icmp_ne (tgt := 49) hx hb dX8_dropIn_41 (by decide) (fun c_9 => ?_) (fun c_9 => ?_)
        · refine lv_aload_n hx hb dX8_dropIn_49 rfl (lv_at hl 3 rfl) ?_
          refine lv_bipush (v := 19) hx hb dX8_dropIn_50 (by decide) ?_
          refine lv_iload hx hb dX8_dropIn_52 (lv_at hl 0 rfl) ?_
          refine lv_iadd hx hb dX8_dropIn_54 ?_
          refine va_iald (D := D) hx hb hK hP 0 0 rfl rfl (by have l_0 : (0 : Int32).toInt = 0 := (by decide); have l_1 : (1 : Int32).toInt = 1 := (by decide); have l_19 : (19 : Int32).toInt = 19 := (by decide); have l_2 : (2 : Int32).toInt = 2 := (by decide); have l_3 : (3 : Int32).toInt = 3 := (by decide); have l_4 : (4 : Int32).toInt = 4 := (by decide); have qc_3 := c_3; (try simp only [fc_le, fc_lt, fc_eq] at qc_3); have qc_9 := c_9; (try simp only [fc_le, fc_lt, fc_eq] at qc_9); have a_1 := fc_kadd (x := x4h19) (k := 19) (n := 19) (by decide) (by omega) (by omega); rw [vp_in_iff]; omega) dX8_dropIn_55 ?_
          refine va_iast (D := D) hx hb hK hP hD hS 0 0 rfl rfl (by have l_0 : (0 : Int32).toInt = 0 := (by decide); have l_1 : (1 : Int32).toInt = 1 := (by decide); have l_19 : (19 : Int32).toInt = 19 := (by decide); have l_2 : (2 : Int32).toInt = 2 := (by decide); have l_3 : (3 : Int32).toInt = 3 := (by decide); have l_4 : (4 : Int32).toInt = 4 := (by decide); have qc_3 := c_3; (try simp only [fc_le, fc_lt, fc_eq] at qc_3); have qc_9 := c_9; (try simp only [fc_le, fc_lt, fc_eq] at qc_9); have a_1 := fc_kadd (x := x4h19) (k := 19) (n := 19) (by decide) (by omega) (by omega); rw [vp_in_iff]; omega) dX8_dropIn_56 (fun H locs hP hD hS => ?_)
          have hP : va_P D vwCl [(rw, .inl (tc 0, 357, .inl (upd rowh19 ((19 + x4h19) : Int32).toNatClampNeg (rowh19 ((19 + x4h19) : Int32).toNatClampNeg))))] H := hP
          have hD : va_D A [(rw, .inl (tc 0, 357, .inl (upd rowh19 ((19 + x4h19) : Int32).toNatClampNeg (rowh19 ((19 + x4h19) : Int32).toNatClampNeg))))] := hD
          obtain ⟨row_10, hw_10⟩ : ∃ z, (upd rowh19 ((19 + x4h19) : Int32).toNatClampNeg (rowh19 ((19 + x4h19) : Int32).toNatClampNeg)) = z := ⟨_, rfl⟩
          rw [hw_10] at hP hD
          have hv3_10 : (row_10 (3 : Int32).toNatClampNeg).toInt = (rowh19 (3 : Int32).toNatClampNeg).toInt := by rw [← hw_10, pk_un (by have l_0 : (0 : Int32).toInt = 0 := (by decide); have l_1 : (1 : Int32).toInt = 1 := (by decide); have l_19 : (19 : Int32).toInt = 19 := (by decide); have l_2 : (2 : Int32).toInt = 2 := (by decide); have l_3 : (3 : Int32).toInt = 3 := (by decide); have l_4 : (4 : Int32).toInt = 4 := (by decide); have qc_3 := c_3; (try simp only [fc_le, fc_lt, fc_eq] at qc_3); have qc_9 := c_9; (try simp only [fc_le, fc_lt, fc_eq] at qc_9); have a_1 := fc_kadd (x := x4h19) (k := 19) (n := 19) (by decide) (by omega) (by omega); simp only [fc_cl]; omega)]
          have hv16_10 : (row_10 (16 : Int32).toNatClampNeg).toInt = (rowh19 (16 : Int32).toNatClampNeg).toInt := by rw [← hw_10, pk_un (by have l_0 : (0 : Int32).toInt = 0 := (by decide); have l_1 : (1 : Int32).toInt = 1 := (by decide); have l_16 : (16 : Int32).toInt = 16 := (by decide); have l_19 : (19 : Int32).toInt = 19 := (by decide); have l_2 : (2 : Int32).toInt = 2 := (by decide); have l_3 : (3 : Int32).toInt = 3 := (by decide); have l_4 : (4 : Int32).toInt = 4 := (by decide); have qc_3 := c_3; (try simp only [fc_le, fc_lt, fc_eq] at qc_3); have qc_9 := c_9; (try simp only [fc_le, fc_lt, fc_eq] at qc_9); have a_1 := fc_kadd (x := x4h19) (k := 19) (n := 19) (by decide) (by omega) (by omega); simp only [fc_cl]; omega)]
          refine lv_iinc (v := (x4h19 + 1)) (lv' := [(4, .int (x4h19 + 1)), (3, .int (row r_2.toNatClampNeg)), (2, .int (row r_1.toNatClampNeg)), (0, .ref rw), (1, .int p1)]) hx hb dX8_dropIn_57 hl (k := 0) rfl rfl (by decide) rfl (fun ls hl => ?_)
          refine lv_goto (tgt := 19) hx hb dX8_dropIn_60 (by decide) ?_
          exact ih_19 (i_19 + 1) (x4h19 + 1) row_10 (by rw [hb_19]; exact nI_1 _) (by have l_0 : (0 : Int32).toInt = 0 := (by decide); have l_1 : (1 : Int32).toInt = 1 := (by decide); have l_19 : (19 : Int32).toInt = 19 := (by decide); have l_2 : (2 : Int32).toInt = 2 := (by decide); have l_3 : (3 : Int32).toInt = 3 := (by decide); have l_4 : (4 : Int32).toInt = 4 := (by decide); have qc_3 := c_3; (try simp only [fc_le, fc_lt, fc_eq] at qc_3); have qc_9 := c_9; (try simp only [fc_le, fc_lt, fc_eq] at qc_9); skip; omega) (by omega) (by omega) (by rw [hI_19, mX8_dropIn_L19_s, mX8_dropIn_S19]; (try dsimp only); rw [if_neg c_3]; rw [if_neg c_9]; rw [hw_10]; (try dsimp only); (first | done | rfl)) _ _ (hP.sub [0] rfl) (hD.sub [0] (by decide) rfl) hS ls (lv_sub hl [0, 1, 2, 3, 4] rfl)
        · refine lv_bipush (v := (-2)) hx hb dX8_dropIn_44 (by decide) ?_
          refine lv_goto (tgt := 56) hx hb dX8_dropIn_46 (by decide) ?_
          refine va_iast (D := D) hx hb hK hP hD hS 0 0 rfl rfl (by have l_0 : (0 : Int32).toInt = 0 := (by decide); have l_1 : (1 : Int32).toInt = 1 := (by decide); have l_19 : (19 : Int32).toInt = 19 := (by decide); have l_2 : (2 : Int32).toInt = 2 := (by decide); have l_3 : (3 : Int32).toInt = 3 := (by decide); have l_4 : (4 : Int32).toInt = 4 := (by decide); have qc_3 := c_3; (try simp only [fc_le, fc_lt, fc_eq] at qc_3); have qc_9 := c_9; (try simp only [fc_le, fc_lt, fc_eq] at qc_9); have a_1 := fc_kadd (x := x4h19) (k := 19) (n := 19) (by decide) (by omega) (by omega); rw [vp_in_iff]; omega) dX8_dropIn_56 (fun H locs hP hD hS => ?_)
          have hP : va_P D vwCl [(rw, .inl (tc 0, 357, .inl (upd rowh19 ((19 + x4h19) : Int32).toNatClampNeg (-2))))] H := hP
          have hD : va_D A [(rw, .inl (tc 0, 357, .inl (upd rowh19 ((19 + x4h19) : Int32).toNatClampNeg (-2))))] := hD
          obtain ⟨row_11, hw_11⟩ : ∃ z, (upd rowh19 ((19 + x4h19) : Int32).toNatClampNeg (-2)) = z := ⟨_, rfl⟩
          rw [hw_11] at hP hD
          have hv3_11 : (row_11 (3 : Int32).toNatClampNeg).toInt = (rowh19 (3 : Int32).toNatClampNeg).toInt := by rw [← hw_11, pk_un (by have l_0 : (0 : Int32).toInt = 0 := (by decide); have l_1 : (1 : Int32).toInt = 1 := (by decide); have l_19 : (19 : Int32).toInt = 19 := (by decide); have l_2 : (2 : Int32).toInt = 2 := (by decide); have l_3 : (3 : Int32).toInt = 3 := (by decide); have l_4 : (4 : Int32).toInt = 4 := (by decide); have qc_3 := c_3; (try simp only [fc_le, fc_lt, fc_eq] at qc_3); have qc_9 := c_9; (try simp only [fc_le, fc_lt, fc_eq] at qc_9); have a_1 := fc_kadd (x := x4h19) (k := 19) (n := 19) (by decide) (by omega) (by omega); simp only [fc_cl]; omega)]
          have hv16_11 : (row_11 (16 : Int32).toNatClampNeg).toInt = (rowh19 (16 : Int32).toNatClampNeg).toInt := by rw [← hw_11, pk_un (by have l_0 : (0 : Int32).toInt = 0 := (by decide); have l_1 : (1 : Int32).toInt = 1 := (by decide); have l_16 : (16 : Int32).toInt = 16 := (by decide); have l_19 : (19 : Int32).toInt = 19 := (by decide); have l_2 : (2 : Int32).toInt = 2 := (by decide); have l_3 : (3 : Int32).toInt = 3 := (by decide); have l_4 : (4 : Int32).toInt = 4 := (by decide); have qc_3 := c_3; (try simp only [fc_le, fc_lt, fc_eq] at qc_3); have qc_9 := c_9; (try simp only [fc_le, fc_lt, fc_eq] at qc_9); have a_1 := fc_kadd (x := x4h19) (k := 19) (n := 19) (by decide) (by omega) (by omega); simp only [fc_cl]; omega)]
          refine lv_iinc (v := (x4h19 + 1)) (lv' := [(4, .int (x4h19 + 1)), (3, .int (row r_2.toNatClampNeg)), (2, .int (row r_1.toNatClampNeg)), (0, .ref rw), (1, .int p1)]) hx hb dX8_dropIn_57 hl (k := 0) rfl rfl (by decide) rfl (fun ls hl => ?_)
          refine lv_goto (tgt := 19) hx hb dX8_dropIn_60 (by decide) ?_
          exact ih_19 (i_19 + 1) (x4h19 + 1) row_11 (by rw [hb_19]; exact nI_1 _) (by have l_0 : (0 : Int32).toInt = 0 := (by decide); have l_1 : (1 : Int32).toInt = 1 := (by decide); have l_19 : (19 : Int32).toInt = 19 := (by decide); have l_2 : (2 : Int32).toInt = 2 := (by decide); have l_3 : (3 : Int32).toInt = 3 := (by decide); have l_4 : (4 : Int32).toInt = 4 := (by decide); have qc_3 := c_3; (try simp only [fc_le, fc_lt, fc_eq] at qc_3); have qc_9 := c_9; (try simp only [fc_le, fc_lt, fc_eq] at qc_9); skip; omega) (by omega) (by omega) (by rw [hI_19, mX8_dropIn_L19_s, mX8_dropIn_S19]; (try dsimp only); rw [if_neg c_3]; rw [if_pos c_9]; rw [hw_11]; (try dsimp only); (first | done | rfl)) _ _ (hP.sub [0] rfl) (hD.sub [0] (by decide) rfl) hS ls (lv_sub hl [0, 1, 2, 3, 4] rfl)
  exact loop_19 49 0 0 row nI_0.symm (by omega) rfl rfl (by rw [mX8_dropIn]; (try dsimp only); rw [hw_1]; (try dsimp only); rw [hw_2]; (try dsimp only); (first | done | rfl)) _ _ (hP.sub [0] rfl) (hD.sub [0] (by decide) rfl) hS ls (lv_sub hl [0, 1, 2, 3, 4] rfl)
noncomputable def mX8_store_S71 (row : Nat → Int32) (ih_71 : Int32 → Int32 → (Nat → Int32) → Nat → Int32) (x2h71 : Int32) (x3h71 : Int32) (rowh71 : Nat → Int32) : Nat → Int32 :=
  if (rowh71 (3 : Int32).toNatClampNeg) ≤ x3h71 then
    let row_12 := (upd rowh71 (16 : Int32).toNatClampNeg ((rowh71 (16 : Int32).toNatClampNeg) + 1))
    let row_13 := (upd row_12 (12 : Int32).toNatClampNeg ((row_12 (12 : Int32).toNatClampNeg) + 1))
    let row_14 := (upd row_13 (17 : Int32).toNatClampNeg ((row_13 (17 : Int32).toNatClampNeg) - 1))
    let r_15 := mX8_waitAt 1 0
    let r_16 := mX8_waitAt 0 0
    let f_17 := mX8_copy_same 357 row_14 r_15 r_16 (4 * (row_14 (17 : Int32).toNatClampNeg))
    f_17
  else
    if x2h71 ≤ 0 then
      let row_19 := (upd rowh71 (16 : Int32).toNatClampNeg ((rowh71 (16 : Int32).toNatClampNeg) + 1))
      let row_20 := (upd row_19 (12 : Int32).toNatClampNeg ((row_19 (12 : Int32).toNatClampNeg) + 1))
      let row_21 := (upd row_20 (17 : Int32).toNatClampNeg ((row_20 (17 : Int32).toNatClampNeg) - 1))
      let r_22 := mX8_waitAt 1 0
      let r_23 := mX8_waitAt 0 0
      let f_24 := mX8_copy_same 357 row_21 r_22 r_23 (4 * (row_21 (17 : Int32).toNatClampNeg))
      f_24
    else
      if (rowh71 ((19 + x3h71) : Int32).toNatClampNeg) = (-1) then
        let r_26 := mX8_keptAt (row (16 : Int32).toNatClampNeg) 0
        let row_27 := (upd rowh71 ((19 + x3h71) : Int32).toNatClampNeg (rowh71 r_26.toNatClampNeg))
        ih_71 (x2h71 + (-1)) (x3h71 + 1) row_27
      else
        ih_71 x2h71 (x3h71 + 1) rowh71
noncomputable def mX8_store_L71 (row : Nat → Int32) (k : Nat) : Int32 → Int32 → (Nat → Int32) → Nat → Int32 := Nat.rec (motive := fun _ => Int32 → Int32 → (Nat → Int32) → Nat → Int32) (fun x2h71 x3h71 rowh71 => rowh71) (fun _ ih => mX8_store_S71 row ih) k
theorem mX8_store_L71_z (row : Nat → Int32) (x2h71 : Int32) (x3h71 : Int32) (rowh71 : Nat → Int32) : mX8_store_L71 row 0 x2h71 x3h71 rowh71 = rowh71 := rfl
theorem mX8_store_L71_s (row : Nat → Int32) (k : Nat) (x2h71 : Int32) (x3h71 : Int32) (rowh71 : Nat → Int32) : mX8_store_L71 row (k + 1) x2h71 x3h71 rowh71 = mX8_store_S71 row (mX8_store_L71 row k) x2h71 x3h71 rowh71 := rfl
noncomputable def mX8_store (row : Nat → Int32) : Nat → Int32 :=
  let r_1 := mX8_waitAt 0 0
  let r_2 := mX8_keptAt (row (16 : Int32).toNatClampNeg) 0
  let f_3 := mX8_copy_same 357 row r_1 r_2 4
  let r_4 := mX8_keptAt (row (16 : Int32).toNatClampNeg) 4
  let r_5 := mX8_waitAt 0 3
  let row_6 := (upd f_3 r_4.toNatClampNeg ((f_3 (4 : Int32).toNatClampNeg) - (f_3 r_5.toNatClampNeg)))
  let r_7 := mX8_keptAt (row (16 : Int32).toNatClampNeg) 4
  if (row_6 r_4.toNatClampNeg) ≤ 0 then
    let row_9 := (upd row_6 (8 : Int32).toNatClampNeg ((row_6 (8 : Int32).toNatClampNeg) + 0))
    let r_10 := mX8_keptAt (row (16 : Int32).toNatClampNeg) 2
    mX8_store_L71 row 49 (row_9 r_10.toNatClampNeg) 0 row_9
  else
    let row_28 := (upd row_6 (8 : Int32).toNatClampNeg ((row_6 (8 : Int32).toNatClampNeg) + 1))
    let r_29 := mX8_keptAt (row (16 : Int32).toNatClampNeg) 2
    mX8_store_L71 row 49 (row_28 r_29.toNatClampNeg) 0 row_28
abbrev rmX8_store : Room := { frames := 1, cells := 0, slots := 0, locals := 25 }
set_option maxHeartbeats 4000000 in
set_option maxRecDepth 100000 in
theorem c_X8_store (l : Launch) (D : va_G) (tc : Nat → ClassId) (rw : Nat) (row : Nat → Int32) (sz : Nat) (h3 : 8 ≤ (row (3 : Int32).toNatClampNeg).toInt ∧ (row (3 : Int32).toNatClampNeg).toInt ≤ 48) (h16 : 0 ≤ (row (16 : Int32).toNatClampNeg).toInt ∧ (row (16 : Int32).toNatClampNeg).toInt ≤ 47) (h17 : 1 ≤ (row (17 : Int32).toNatClampNeg).toInt ∧ (row (17 : Int32).toNatClampNeg).toInt ≤ 4) : Met l yX8_store wsX8_store rmX8_store (va_Pc [.ref rw] (fcB D tc [(rw, .inl (tc 0, 357, .inl row))] sz)) (va_Qv (fun (u : Nat → Int32) => mX8_store row = u) (fun u t => fcO D (va_A [(rw, .inl (tc 0, 357, .inl row))] sz) ((fun (u : Nat → Int32) => [(rw, .inl (tc 0, 357, .inl u))]) u) t) (va_A [(rw, .inl (tc 0, 357, .inl row))] sz)) 0 0 (va_A [(rw, .inl (tc 0, 357, .inl row))] sz) := by
  refine fc_ofWv (own := RX8) (cc := cX8_store) (maxL := 4) (W1 := (fun (u : Nat → Int32) => [(rw, .inl (tc 0, 357, .inl u))])) rfl (by decide) rfl (Nat.le_of_ble_eq_true rfl) ?_
  intro p e s m args below meth c A Q hx hb hml hown hts hK hE hP hD hS hA hin hret ls hl
  have hl : lv_has ls 4 [(0, .ref rw)] := hl
  refine lv_aload_n hx hb dX8_store_0 rfl (lv_at hl 0 rfl) ?_
  refine lv_bipush (v := 16) hx hb dX8_store_1 (by decide) ?_
  refine va_iald (D := D) hx hb hK hP 0 0 rfl rfl (vp_in_iff.mpr (by decide)) dX8_store_3 ?_
  refine lv_istore_n (lv' := [(1, .int (row (16 : Int32).toNatClampNeg)), (0, .ref rw)]) hx hb dX8_store_4 rfl hl (by decide) rfl (fun ls hl => ?_)
  refine lv_aload_n hx hb dX8_store_5 rfl (lv_at hl 1 rfl) ?_
  refine lv_iconst (v := 0) hx hb dX8_store_6 (by decide) ?_
  refine lv_iconst (v := 0) hx hb dX8_store_7 (by decide) ?_
  refine fc_goi (isC := []) (isR := [0]) (wc := []) (wr := [(rw, .inl (tc 0, 357, .inl row))]) hP hD hS hA rfl rfl (by decide) (by decide) (fc_runS (isC := []) (As := [.int 0, .int 0]) (rest := [.ref rw]) hx hb hml hown hts hK hE hP hD hS hA rfl (by decide) (c_X8_waitAt l D tc 0 0 _ ) (cwS 2 hts gX8_store_X8_waitAt rfl rfl rfl hd_X8_waitAt ⟨Nat.le_of_ble_eq_true rfl, Nat.le_of_ble_eq_true rfl⟩) rfl hl.1 rfl (Nat.le_of_ble_eq_true rfl) dX8_store_8 ⟨Nat.le_of_ble_eq_true rfl, Nat.le_of_ble_eq_true rfl⟩) (fun r_1 u_1 H locs hw_1 hP hD hS => ?_)
  try dsimp only at hw_1
  have hP : va_P D vwCl [(rw, .inl (tc 0, 357, .inl row))] H := hP
  have hD : va_D A [(rw, .inl (tc 0, 357, .inl row))] := hD
  have hf_1 := fx_waitAt hw_1 (by decide) (by decide)
  refine lv_aload_n hx hb dX8_store_11 rfl (lv_at hl 1 rfl) ?_
  refine lv_iload_n hx hb dX8_store_12 rfl (lv_at hl 0 rfl) ?_
  refine lv_iconst (v := 0) hx hb dX8_store_13 (by decide) ?_
  refine fc_goi (isC := []) (isR := [0]) (wc := []) (wr := [(rw, .inl (tc 0, 357, .inl row))]) hP hD hS hA rfl rfl (by decide) (by decide) (fc_runS (isC := []) (As := [.int (row (16 : Int32).toNatClampNeg), .int 0]) (rest := [.ref rw, .int r_1, .ref rw]) hx hb hml hown hts hK hE hP hD hS hA rfl (by decide) (c_X8_keptAt l D tc (row (16 : Int32).toNatClampNeg) 0 _ ) (cwS 2 hts gX8_store_X8_keptAt rfl rfl rfl hd_X8_keptAt ⟨Nat.le_of_ble_eq_true rfl, Nat.le_of_ble_eq_true rfl⟩) rfl hl.1 rfl (Nat.le_of_ble_eq_true rfl) dX8_store_14 ⟨Nat.le_of_ble_eq_true rfl, Nat.le_of_ble_eq_true rfl⟩) (fun r_2 u_2 H locs hw_2 hP hD hS => ?_)
  try dsimp only at hw_2
  have hP : va_P D vwCl [(rw, .inl (tc 0, 357, .inl row))] H := hP
  have hD : va_D A [(rw, .inl (tc 0, 357, .inl row))] := hD
  have hf_2 := fx_keptAt hw_2 (by omega) (by decide)
  refine lv_iconst (v := 4) hx hb dX8_store_17 (by decide) ?_
  have l0 : (0 : Int32).toInt = 0 := by decide
  have l4 : (4 : Int32).toInt = 4 := by decide
  refine fc_gov (isC := [0]) (isR := []) (wc := [(rw, .inl (tc 0, 357, .inl row))]) (wr := []) hP hD hS hA rfl rfl (by decide) (by decide) (fc_runS (isC := [0]) (As := [.ref rw, .int r_1, .ref rw, .int r_2, .int 4]) (rest := []) hx hb hml hown hts hK hE hP hD hS hA rfl (by decide) (c_X8_copy_same l D tc rw 357 row r_1 r_2 4 _ (by have l_0 : (0 : Int32).toInt = 0 := (by decide); have l_1 : (1 : Int32).toInt = 1 := (by decide); have l_2 : (2 : Int32).toInt = 2 := (by decide); have l_3 : (3 : Int32).toInt = 3 := (by decide); have l_357 : (357 : Int32).toInt = 357 := (by decide); have l_4 : (4 : Int32).toInt = 4 := (by decide); (try simp only [fc_le, fc_lt, fc_eq]); omega) (by have l_0 : (0 : Int32).toInt = 0 := (by decide); have l_1 : (1 : Int32).toInt = 1 := (by decide); have l_2 : (2 : Int32).toInt = 2 := (by decide); have l_3 : (3 : Int32).toInt = 3 := (by decide); have l_357 : (357 : Int32).toInt = 357 := (by decide); have l_4 : (4 : Int32).toInt = 4 := (by decide); (try simp only [fc_le, fc_lt, fc_eq]); omega) (by have l_0 : (0 : Int32).toInt = 0 := (by decide); have l_1 : (1 : Int32).toInt = 1 := (by decide); have l_2 : (2 : Int32).toInt = 2 := (by decide); have l_3 : (3 : Int32).toInt = 3 := (by decide); have l_357 : (357 : Int32).toInt = 357 := (by decide); have l_4 : (4 : Int32).toInt = 4 := (by decide); (try simp only [fc_le, fc_lt, fc_eq]); omega)) (cwS 5 hts gX8_store_X8_copy rfl rfl rfl hd_X8_copy ⟨Nat.le_of_ble_eq_true rfl, Nat.le_of_ble_eq_true rfl⟩) rfl hl.1 rfl (Nat.le_of_ble_eq_true rfl) dX8_store_18 ⟨Nat.le_of_ble_eq_true rfl, Nat.le_of_ble_eq_true rfl⟩) (fun u_3 H locs hw_3 hP hD hS => ?_)
  obtain ⟨f_3, rfl⟩ : ∃ z, z = u_3 := ⟨_, rfl⟩
  try dsimp only at hw_3
  have hP : va_P D vwCl [(rw, .inl (tc 0, 357, .inl f_3))] H := hP
  have hD : va_D A [(rw, .inl (tc 0, 357, .inl f_3))] := hD
  have hcp_3 := fx_copy_same hw_3 (by omega) (by omega) (by omega)
  have hv3_3 : (f_3 (3 : Int32).toNatClampNeg).toInt = (row (3 : Int32).toNatClampNeg).toInt := by rw [hcp_3, pk_cpy_out (by have l1 : (3 : Int32).toInt = 3 := (by decide); simp only [fc_cl]; omega)]
  have hv17_3 : (f_3 (17 : Int32).toNatClampNeg).toInt = (row (17 : Int32).toNatClampNeg).toInt := by rw [hcp_3, pk_cpy_out (by have l1 : (17 : Int32).toInt = 17 := (by decide); simp only [fc_cl]; omega)]
  refine lv_aload_n hx hb dX8_store_21 rfl (lv_at hl 1 rfl) ?_
  refine lv_iload_n hx hb dX8_store_22 rfl (lv_at hl 0 rfl) ?_
  refine lv_iconst (v := 4) hx hb dX8_store_23 (by decide) ?_
  refine fc_goi (isC := []) (isR := [0]) (wc := []) (wr := [(rw, .inl (tc 0, 357, .inl f_3))]) hP hD hS hA rfl rfl (by decide) (by decide) (fc_runS (isC := []) (As := [.int (row (16 : Int32).toNatClampNeg), .int 4]) (rest := [.ref rw]) hx hb hml hown hts hK hE hP hD hS hA rfl (by decide) (c_X8_keptAt l D tc (row (16 : Int32).toNatClampNeg) 4 _ ) (cwS 2 hts gX8_store_X8_keptAt rfl rfl rfl hd_X8_keptAt ⟨Nat.le_of_ble_eq_true rfl, Nat.le_of_ble_eq_true rfl⟩) rfl hl.1 rfl (Nat.le_of_ble_eq_true rfl) dX8_store_24 ⟨Nat.le_of_ble_eq_true rfl, Nat.le_of_ble_eq_true rfl⟩) (fun r_4 u_4 H locs hw_4 hP hD hS => ?_)
  try dsimp only at hw_4
  have hP : va_P D vwCl [(rw, .inl (tc 0, 357, .inl f_3))] H := hP
  have hD : va_D A [(rw, .inl (tc 0, 357, .inl f_3))] := hD
  have hf_4 := fx_keptAt hw_4 (by omega) (by decide)
  refine lv_aload_n hx hb dX8_store_27 rfl (lv_at hl 1 rfl) ?_
  refine lv_iconst (v := 4) hx hb dX8_store_28 (by decide) ?_
  refine va_iald (D := D) hx hb hK hP 0 0 rfl rfl (vp_in_iff.mpr (by decide)) dX8_store_29 ?_
  refine lv_aload_n hx hb dX8_store_30 rfl (lv_at hl 1 rfl) ?_
  refine lv_iconst (v := 0) hx hb dX8_store_31 (by decide) ?_
  refine lv_iconst (v := 3) hx hb dX8_store_32 (by decide) ?_
  refine fc_goi (isC := []) (isR := [0]) (wc := []) (wr := [(rw, .inl (tc 0, 357, .inl f_3))]) hP hD hS hA rfl rfl (by decide) (by decide) (fc_runS (isC := []) (As := [.int 0, .int 3]) (rest := [.ref rw, .int (f_3 (4 : Int32).toNatClampNeg), .int r_4, .ref rw]) hx hb hml hown hts hK hE hP hD hS hA rfl (by decide) (c_X8_waitAt l D tc 0 3 _ ) (cwS 2 hts gX8_store_X8_waitAt rfl rfl rfl hd_X8_waitAt ⟨Nat.le_of_ble_eq_true rfl, Nat.le_of_ble_eq_true rfl⟩) rfl hl.1 rfl (Nat.le_of_ble_eq_true rfl) dX8_store_33 ⟨Nat.le_of_ble_eq_true rfl, Nat.le_of_ble_eq_true rfl⟩) (fun r_5 u_5 H locs hw_5 hP hD hS => ?_)
  try dsimp only at hw_5
  have hP : va_P D vwCl [(rw, .inl (tc 0, 357, .inl f_3))] H := hP
  have hD : va_D A [(rw, .inl (tc 0, 357, .inl f_3))] := hD
  have hf_5 := fx_waitAt hw_5 (by decide) (by decide)
  refine va_iald (D := D) hx hb hK hP 0 0 rfl rfl (by have l_0 : (0 : Int32).toInt = 0 := (by decide); have l_1 : (1 : Int32).toInt = 1 := (by decide); have l_17 : (17 : Int32).toInt = 17 := (by decide); have l_2 : (2 : Int32).toInt = 2 := (by decide); have l_3 : (3 : Int32).toInt = 3 := (by decide); have l_4 : (4 : Int32).toInt = 4 := (by decide); have qhv3_3 := hv3_3; (try simp only [fc_le, fc_lt, fc_eq] at qhv3_3); have qhv17_3 := hv17_3; (try simp only [fc_le, fc_lt, fc_eq] at qhv17_3); rw [vp_in_iff]; omega) dX8_store_36 ?_
  refine lv_isub hx hb dX8_store_37 ?_
  refine va_iast (D := D) hx hb hK hP hD hS 0 0 rfl rfl (by have l_0 : (0 : Int32).toInt = 0 := (by decide); have l_1 : (1 : Int32).toInt = 1 := (by decide); have l_17 : (17 : Int32).toInt = 17 := (by decide); have l_2 : (2 : Int32).toInt = 2 := (by decide); have l_3 : (3 : Int32).toInt = 3 := (by decide); have l_4 : (4 : Int32).toInt = 4 := (by decide); have qhv3_3 := hv3_3; (try simp only [fc_le, fc_lt, fc_eq] at qhv3_3); have qhv17_3 := hv17_3; (try simp only [fc_le, fc_lt, fc_eq] at qhv17_3); rw [vp_in_iff]; omega) dX8_store_38 (fun H locs hP hD hS => ?_)
  have hP : va_P D vwCl [(rw, .inl (tc 0, 357, .inl (upd f_3 r_4.toNatClampNeg ((f_3 (4 : Int32).toNatClampNeg) - (f_3 r_5.toNatClampNeg)))))] H := hP
  have hD : va_D A [(rw, .inl (tc 0, 357, .inl (upd f_3 r_4.toNatClampNeg ((f_3 (4 : Int32).toNatClampNeg) - (f_3 r_5.toNatClampNeg)))))] := hD
  obtain ⟨row_6, hw_6⟩ : ∃ z, (upd f_3 r_4.toNatClampNeg ((f_3 (4 : Int32).toNatClampNeg) - (f_3 r_5.toNatClampNeg))) = z := ⟨_, rfl⟩
  rw [hw_6] at hP hD
  have hv3_6 : (row_6 (3 : Int32).toNatClampNeg).toInt = (f_3 (3 : Int32).toNatClampNeg).toInt := by rw [← hw_6, pk_un (by have l_0 : (0 : Int32).toInt = 0 := (by decide); have l_1 : (1 : Int32).toInt = 1 := (by decide); have l_17 : (17 : Int32).toInt = 17 := (by decide); have l_2 : (2 : Int32).toInt = 2 := (by decide); have l_3 : (3 : Int32).toInt = 3 := (by decide); have l_4 : (4 : Int32).toInt = 4 := (by decide); have qhv3_3 := hv3_3; (try simp only [fc_le, fc_lt, fc_eq] at qhv3_3); have qhv17_3 := hv17_3; (try simp only [fc_le, fc_lt, fc_eq] at qhv17_3); simp only [fc_cl]; omega)]
  have hv17_6 : (row_6 (17 : Int32).toNatClampNeg).toInt = (f_3 (17 : Int32).toNatClampNeg).toInt := by rw [← hw_6, pk_un (by have l_0 : (0 : Int32).toInt = 0 := (by decide); have l_1 : (1 : Int32).toInt = 1 := (by decide); have l_17 : (17 : Int32).toInt = 17 := (by decide); have l_2 : (2 : Int32).toInt = 2 := (by decide); have l_3 : (3 : Int32).toInt = 3 := (by decide); have l_4 : (4 : Int32).toInt = 4 := (by decide); have qhv3_3 := hv3_3; (try simp only [fc_le, fc_lt, fc_eq] at qhv3_3); have qhv17_3 := hv17_3; (try simp only [fc_le, fc_lt, fc_eq] at qhv17_3); simp only [fc_cl]; omega)]
  refine lv_aload_n hx hb dX8_store_39 rfl (lv_at hl 1 rfl) ?_
  refine lv_bipush (v := 8) hx hb dX8_store_40 (by decide) ?_
  refine lv_dup2_11 hx hb dX8_store_42 rfl rfl ?_
  refine va_iald (D := D) hx hb hK hP 0 0 rfl rfl (vp_in_iff.mpr (by decide)) dX8_store_43 ?_
  refine lv_aload_n hx hb dX8_store_44 rfl (lv_at hl 1 rfl) ?_
  refine lv_iload_n hx hb dX8_store_45 rfl (lv_at hl 0 rfl) ?_
  refine lv_iconst (v := 4) hx hb dX8_store_46 (by decide) ?_
  refine fc_goi (isC := []) (isR := [0]) (wc := []) (wr := [(rw, .inl (tc 0, 357, .inl row_6))]) hP hD hS hA rfl rfl (by decide) (by decide) (fc_runS (isC := []) (As := [.int (row (16 : Int32).toNatClampNeg), .int 4]) (rest := [.ref rw, .int (row_6 (8 : Int32).toNatClampNeg), .int 8, .ref rw]) hx hb hml hown hts hK hE hP hD hS hA rfl (by decide) (c_X8_keptAt l D tc (row (16 : Int32).toNatClampNeg) 4 _ ) (cwS 2 hts gX8_store_X8_keptAt rfl rfl rfl hd_X8_keptAt ⟨Nat.le_of_ble_eq_true rfl, Nat.le_of_ble_eq_true rfl⟩) rfl hl.1 rfl (Nat.le_of_ble_eq_true rfl) dX8_store_47 ⟨Nat.le_of_ble_eq_true rfl, Nat.le_of_ble_eq_true rfl⟩) (fun r_7 u_7 H locs hw_7 hP hD hS => ?_)
  try dsimp only at hw_7
  have hP : va_P D vwCl [(rw, .inl (tc 0, 357, .inl row_6))] H := hP
  have hD : va_D A [(rw, .inl (tc 0, 357, .inl row_6))] := hD
  obtain rfl : r_4 = r_7 := hw_4.symm.trans hw_7
  have hf_7 := fx_keptAt hw_7 (by omega) (by decide)
  refine va_iald (D := D) hx hb hK hP 0 0 rfl rfl (by have l_0 : (0 : Int32).toInt = 0 := (by decide); have l_1 : (1 : Int32).toInt = 1 := (by decide); have l_17 : (17 : Int32).toInt = 17 := (by decide); have l_2 : (2 : Int32).toInt = 2 := (by decide); have l_3 : (3 : Int32).toInt = 3 := (by decide); have l_4 : (4 : Int32).toInt = 4 := (by decide); have qhv3_3 := hv3_3; (try simp only [fc_le, fc_lt, fc_eq] at qhv3_3); have qhv17_3 := hv17_3; (try simp only [fc_le, fc_lt, fc_eq] at qhv17_3); rw [vp_in_iff]; omega) dX8_store_50 ?_
  refine lv_if_le (tgt := 58) hx hb dX8_store_51 (by decide) (fun c_8 => ?_) (fun c_8 => ?_)
  · refine lv_iconst (v := 0) hx hb dX8_store_58 (by decide) ?_
    refine lv_iadd hx hb dX8_store_59 ?_
    refine va_iast (D := D) hx hb hK hP hD hS 0 0 rfl rfl (vp_in_iff.mpr (by decide)) dX8_store_60 (fun H locs hP hD hS => ?_)
    have hP : va_P D vwCl [(rw, .inl (tc 0, 357, .inl (upd row_6 (8 : Int32).toNatClampNeg ((row_6 (8 : Int32).toNatClampNeg) + 0))))] H := hP
    have hD : va_D A [(rw, .inl (tc 0, 357, .inl (upd row_6 (8 : Int32).toNatClampNeg ((row_6 (8 : Int32).toNatClampNeg) + 0))))] := hD
    obtain ⟨row_9, hw_9⟩ : ∃ z, (upd row_6 (8 : Int32).toNatClampNeg ((row_6 (8 : Int32).toNatClampNeg) + 0)) = z := ⟨_, rfl⟩
    rw [hw_9] at hP hD
    have hv3_9 : (row_9 (3 : Int32).toNatClampNeg).toInt = (row_6 (3 : Int32).toNatClampNeg).toInt := by rw [← hw_9, pk_un (by decide)]
    have hv17_9 : (row_9 (17 : Int32).toNatClampNeg).toInt = (row_6 (17 : Int32).toNatClampNeg).toInt := by rw [← hw_9, pk_un (by decide)]
    refine lv_aload_n hx hb dX8_store_61 rfl (lv_at hl 1 rfl) ?_
    refine lv_iload_n hx hb dX8_store_62 rfl (lv_at hl 0 rfl) ?_
    refine lv_iconst (v := 2) hx hb dX8_store_63 (by decide) ?_
    refine fc_goi (isC := []) (isR := [0]) (wc := []) (wr := [(rw, .inl (tc 0, 357, .inl row_9))]) hP hD hS hA rfl rfl (by decide) (by decide) (fc_runS (isC := []) (As := [.int (row (16 : Int32).toNatClampNeg), .int 2]) (rest := [.ref rw]) hx hb hml hown hts hK hE hP hD hS hA rfl (by decide) (c_X8_keptAt l D tc (row (16 : Int32).toNatClampNeg) 2 _ ) (cwS 2 hts gX8_store_X8_keptAt rfl rfl rfl hd_X8_keptAt ⟨Nat.le_of_ble_eq_true rfl, Nat.le_of_ble_eq_true rfl⟩) rfl hl.1 rfl (Nat.le_of_ble_eq_true rfl) dX8_store_64 ⟨Nat.le_of_ble_eq_true rfl, Nat.le_of_ble_eq_true rfl⟩) (fun r_10 u_10 H locs hw_10 hP hD hS => ?_)
    try dsimp only at hw_10
    have hP : va_P D vwCl [(rw, .inl (tc 0, 357, .inl row_9))] H := hP
    have hD : va_D A [(rw, .inl (tc 0, 357, .inl row_9))] := hD
    have hf_10 := fx_keptAt hw_10 (by omega) (by decide)
    refine va_iald (D := D) hx hb hK hP 0 0 rfl rfl (by have l_0 : (0 : Int32).toInt = 0 := (by decide); have l_1 : (1 : Int32).toInt = 1 := (by decide); have l_17 : (17 : Int32).toInt = 17 := (by decide); have l_2 : (2 : Int32).toInt = 2 := (by decide); have l_3 : (3 : Int32).toInt = 3 := (by decide); have l_4 : (4 : Int32).toInt = 4 := (by decide); have qc_8 := c_8; (try simp only [fc_le, fc_lt, fc_eq] at qc_8); have qhv3_3 := hv3_3; (try simp only [fc_le, fc_lt, fc_eq] at qhv3_3); have qhv17_3 := hv17_3; (try simp only [fc_le, fc_lt, fc_eq] at qhv17_3); rw [vp_in_iff]; omega) dX8_store_67 ?_
    refine lv_istore_n (lv' := [(2, .int (row_9 r_10.toNatClampNeg)), (1, .int (row (16 : Int32).toNatClampNeg)), (0, .ref rw)]) hx hb dX8_store_68 rfl hl (by decide) rfl (fun ls hl => ?_)
    refine lv_iconst (v := 0) hx hb dX8_store_69 (by decide) ?_
    refine lv_istore_n (lv' := [(3, .int 0), (2, .int (row_9 r_10.toNatClampNeg)), (1, .int (row (16 : Int32).toNatClampNeg)), (0, .ref rw)]) hx hb dX8_store_70 rfl hl (by decide) rfl (fun ls hl => ?_)
    have loop_71 : ∀ (k_71 : Nat) (i_71 : Nat) (x2h71 : Int32) (x3h71 : Int32) (rowh71 : Nat → Int32) (hb_71 : x3h71 = nI i_71) (hm_71 : i_71 ≤ 48 ∧ 48 < i_71 + k_71) (w3_71 : (rowh71 (3 : Int32).toNatClampNeg).toInt = (row (3 : Int32).toNatClampNeg).toInt) (w17_71 : (rowh71 (17 : Int32).toNatClampNeg).toInt = (row (17 : Int32).toNatClampNeg).toInt) (hI_71 : mX8_store row = mX8_store_L71 row k_71 x2h71 x3h71 rowh71) (H : Heap) (locs : List Loc), va_P D vwCl [(rw, .inl (tc 0, 357, .inl rowh71))] H → va_D A [(rw, .inl (tc 0, 357, .inl rowh71))] → va_S A s.heap H locs → ∀ ls : Array Slot, lv_has ls 4 [(3, .int x3h71), (2, .int x2h71), (1, .int (row (16 : Int32).toNatClampNeg)), (0, .ref rw)] → W p l e rmX8_store s m args below meth c H locs 0 0 Q (F0 m 71 ls []) := by
      intro k_71
      induction k_71 with
      | zero =>
        intro i_71 x2h71 x3h71 rowh71 hb_71 hm_71 w3_71 w17_71 hI_71 H locs hP hD hS ls hl
        exact absurd hm_71 (by omega)
      | succ k_71 ih_71 =>
        intro i_71 x2h71 x3h71 rowh71 hb_71 hm_71 w3_71 w17_71 hI_71 H locs hP hD hS ls hl
        have zz_71 := fc_nI (n := i_71) (by omega)
        rw [← hb_71] at zz_71
        refine lv_iload_n hx hb dX8_store_71 rfl (lv_at hl 0 rfl) ?_
        refine lv_aload_n hx hb dX8_store_72 rfl (lv_at hl 3 rfl) ?_
        refine lv_iconst (v := 3) hx hb dX8_store_73 (by decide) ?_
        refine va_iald (D := D) hx hb hK hP 0 0 rfl rfl (vp_in_iff.mpr (by decide)) dX8_store_74 ?_
        refine lv_icmp_ge (tgt := 114) hx hb dX8_store_75 (by decide) (fun c_11 => ?_) (fun c_11 => ?_)
        · refine lv_aload_n hx hb dX8_store_114 rfl (lv_at hl 3 rfl) ?_
          refine lv_bipush (v := 16) hx hb dX8_store_115 (by decide) ?_
          refine lv_dup2_11 hx hb dX8_store_117 rfl rfl ?_
          refine va_iald (D := D) hx hb hK hP 0 0 rfl rfl (vp_in_iff.mpr (by decide)) dX8_store_118 ?_
          refine lv_iconst (v := 1) hx hb dX8_store_119 (by decide) ?_
          refine lv_iadd hx hb dX8_store_120 ?_
          refine va_iast (D := D) hx hb hK hP hD hS 0 0 rfl rfl (vp_in_iff.mpr (by decide)) dX8_store_121 (fun H locs hP hD hS => ?_)
          have hP : va_P D vwCl [(rw, .inl (tc 0, 357, .inl (upd rowh71 (16 : Int32).toNatClampNeg ((rowh71 (16 : Int32).toNatClampNeg) + 1))))] H := hP
          have hD : va_D A [(rw, .inl (tc 0, 357, .inl (upd rowh71 (16 : Int32).toNatClampNeg ((rowh71 (16 : Int32).toNatClampNeg) + 1))))] := hD
          obtain ⟨row_12, hw_12⟩ : ∃ z, (upd rowh71 (16 : Int32).toNatClampNeg ((rowh71 (16 : Int32).toNatClampNeg) + 1)) = z := ⟨_, rfl⟩
          rw [hw_12] at hP hD
          have hv3_12 : (row_12 (3 : Int32).toNatClampNeg).toInt = (rowh71 (3 : Int32).toNatClampNeg).toInt := by rw [← hw_12, pk_un (by decide)]
          have hv17_12 : (row_12 (17 : Int32).toNatClampNeg).toInt = (rowh71 (17 : Int32).toNatClampNeg).toInt := by rw [← hw_12, pk_un (by decide)]
          refine lv_aload_n hx hb dX8_store_122 rfl (lv_at hl 3 rfl) ?_
          refine lv_bipush (v := 12) hx hb dX8_store_123 (by decide) ?_
          refine lv_dup2_11 hx hb dX8_store_125 rfl rfl ?_
          refine va_iald (D := D) hx hb hK hP 0 0 rfl rfl (vp_in_iff.mpr (by decide)) dX8_store_126 ?_
          refine lv_iconst (v := 1) hx hb dX8_store_127 (by decide) ?_
          refine lv_iadd hx hb dX8_store_128 ?_
          refine va_iast (D := D) hx hb hK hP hD hS 0 0 rfl rfl (vp_in_iff.mpr (by decide)) dX8_store_129 (fun H locs hP hD hS => ?_)
          have hP : va_P D vwCl [(rw, .inl (tc 0, 357, .inl (upd row_12 (12 : Int32).toNatClampNeg ((row_12 (12 : Int32).toNatClampNeg) + 1))))] H := hP
          have hD : va_D A [(rw, .inl (tc 0, 357, .inl (upd row_12 (12 : Int32).toNatClampNeg ((row_12 (12 : Int32).toNatClampNeg) + 1))))] := hD
          obtain ⟨row_13, hw_13⟩ : ∃ z, (upd row_12 (12 : Int32).toNatClampNeg ((row_12 (12 : Int32).toNatClampNeg) + 1)) = z := ⟨_, rfl⟩
          rw [hw_13] at hP hD
          have hv3_13 : (row_13 (3 : Int32).toNatClampNeg).toInt = (row_12 (3 : Int32).toNatClampNeg).toInt := by rw [← hw_13, pk_un (by decide)]
          have hv17_13 : (row_13 (17 : Int32).toNatClampNeg).toInt = (row_12 (17 : Int32).toNatClampNeg).toInt := by rw [← hw_13, pk_un (by decide)]
          refine lv_aload_n hx hb dX8_store_130 rfl (lv_at hl 3 rfl) ?_
          refine lv_bipush (v := 17) hx hb dX8_store_131 (by decide) ?_
          refine lv_dup2_11 hx hb dX8_store_133 rfl rfl ?_
          refine va_iald (D := D) hx hb hK hP 0 0 rfl rfl (vp_in_iff.mpr (by decide)) dX8_store_134 ?_
          refine lv_iconst (v := 1) hx hb dX8_store_135 (by decide) ?_
          refine lv_isub hx hb dX8_store_136 ?_
          refine va_iast (D := D) hx hb hK hP hD hS 0 0 rfl rfl (vp_in_iff.mpr (by decide)) dX8_store_137 (fun H locs hP hD hS => ?_)
          have hP : va_P D vwCl [(rw, .inl (tc 0, 357, .inl (upd row_13 (17 : Int32).toNatClampNeg ((row_13 (17 : Int32).toNatClampNeg) - 1))))] H := hP
          have hD : va_D A [(rw, .inl (tc 0, 357, .inl (upd row_13 (17 : Int32).toNatClampNeg ((row_13 (17 : Int32).toNatClampNeg) - 1))))] := hD
          obtain ⟨row_14, hw_14⟩ : ∃ z, (upd row_13 (17 : Int32).toNatClampNeg ((row_13 (17 : Int32).toNatClampNeg) - 1)) = z := ⟨_, rfl⟩
          rw [hw_14] at hP hD
          have hv3_14 : (row_14 (3 : Int32).toNatClampNeg).toInt = (row_13 (3 : Int32).toNatClampNeg).toInt := by rw [← hw_14, pk_un (by decide)]
          have hv17_14 : (row_14 (17 : Int32).toNatClampNeg).toInt = (((row_13 (17 : Int32).toNatClampNeg) - 1)).toInt := by rw [← hw_14, pk_us]
          have av14_1 := fc_subk (x := (row_13 (17 : Int32).toNatClampNeg)) (k := 1) (n := 1) (by decide) (by omega) (by omega)
          refine lv_aload_n hx hb dX8_store_138 rfl (lv_at hl 3 rfl) ?_
          refine lv_iconst (v := 1) hx hb dX8_store_139 (by decide) ?_
          refine lv_iconst (v := 0) hx hb dX8_store_140 (by decide) ?_
          refine fc_goi (isC := []) (isR := [0]) (wc := []) (wr := [(rw, .inl (tc 0, 357, .inl row_14))]) hP hD hS hA rfl rfl (by decide) (by decide) (fc_runS (isC := []) (As := [.int 1, .int 0]) (rest := [.ref rw]) hx hb hml hown hts hK hE hP hD hS hA rfl (by decide) (c_X8_waitAt l D tc 1 0 _ ) (cwS 2 hts gX8_store_X8_waitAt rfl rfl rfl hd_X8_waitAt ⟨Nat.le_of_ble_eq_true rfl, Nat.le_of_ble_eq_true rfl⟩) rfl hl.1 rfl (Nat.le_of_ble_eq_true rfl) dX8_store_141 ⟨Nat.le_of_ble_eq_true rfl, Nat.le_of_ble_eq_true rfl⟩) (fun r_15 u_15 H locs hw_15 hP hD hS => ?_)
          try dsimp only at hw_15
          have hP : va_P D vwCl [(rw, .inl (tc 0, 357, .inl row_14))] H := hP
          have hD : va_D A [(rw, .inl (tc 0, 357, .inl row_14))] := hD
          have hf_15 := fx_waitAt hw_15 (by decide) (by decide)
          refine lv_aload_n hx hb dX8_store_144 rfl (lv_at hl 3 rfl) ?_
          refine lv_iconst (v := 0) hx hb dX8_store_145 (by decide) ?_
          refine lv_iconst (v := 0) hx hb dX8_store_146 (by decide) ?_
          refine fc_goi (isC := []) (isR := [0]) (wc := []) (wr := [(rw, .inl (tc 0, 357, .inl row_14))]) hP hD hS hA rfl rfl (by decide) (by decide) (fc_runS (isC := []) (As := [.int 0, .int 0]) (rest := [.ref rw, .int r_15, .ref rw]) hx hb hml hown hts hK hE hP hD hS hA rfl (by decide) (c_X8_waitAt l D tc 0 0 _ ) (cwS 2 hts gX8_store_X8_waitAt rfl rfl rfl hd_X8_waitAt ⟨Nat.le_of_ble_eq_true rfl, Nat.le_of_ble_eq_true rfl⟩) rfl hl.1 rfl (Nat.le_of_ble_eq_true rfl) dX8_store_147 ⟨Nat.le_of_ble_eq_true rfl, Nat.le_of_ble_eq_true rfl⟩) (fun r_16 u_16 H locs hw_16 hP hD hS => ?_)
          try dsimp only at hw_16
          have hP : va_P D vwCl [(rw, .inl (tc 0, 357, .inl row_14))] H := hP
          have hD : va_D A [(rw, .inl (tc 0, 357, .inl row_14))] := hD
          have hf_16 := fx_waitAt hw_16 (by decide) (by decide)
          refine lv_iconst (v := 4) hx hb dX8_store_150 (by decide) ?_
          refine lv_aload_n hx hb dX8_store_151 rfl (lv_at hl 3 rfl) ?_
          refine lv_bipush (v := 17) hx hb dX8_store_152 (by decide) ?_
          refine va_iald (D := D) hx hb hK hP 0 0 rfl rfl (vp_in_iff.mpr (by decide)) dX8_store_154 ?_
          refine lv_imul hx hb dX8_store_155 ?_
          have l0 : (0 : Int32).toInt = 0 := by decide
          have l1 : (1 : Int32).toInt = 1 := by decide
          refine fc_gov (isC := [0]) (isR := []) (wc := [(rw, .inl (tc 0, 357, .inl row_14))]) (wr := []) hP hD hS hA rfl rfl (by decide) (by decide) (fc_runS (isC := [0]) (As := [.ref rw, .int r_15, .ref rw, .int r_16, .int (4 * (row_14 (17 : Int32).toNatClampNeg))]) (rest := []) hx hb hml hown hts hK hE hP hD hS hA rfl (by decide) (c_X8_copy_same l D tc rw 357 row_14 r_15 r_16 (4 * (row_14 (17 : Int32).toNatClampNeg)) _ (by have l_0 : (0 : Int32).toInt = 0 := (by decide); have l_1 : (1 : Int32).toInt = 1 := (by decide); have l_17 : (17 : Int32).toInt = 17 := (by decide); have l_2 : (2 : Int32).toInt = 2 := (by decide); have l_3 : (3 : Int32).toInt = 3 := (by decide); have l_357 : (357 : Int32).toInt = 357 := (by decide); have l_4 : (4 : Int32).toInt = 4 := (by decide); have qc_11 := c_11; (try simp only [fc_le, fc_lt, fc_eq] at qc_11); have a_1 := fc_kmul (x := (row_14 (17 : Int32).toNatClampNeg)) (k := 4) (n := 4) (by decide) (by omega) (by omega); (try simp only [fc_le, fc_lt, fc_eq]); omega) (by have l_0 : (0 : Int32).toInt = 0 := (by decide); have l_1 : (1 : Int32).toInt = 1 := (by decide); have l_17 : (17 : Int32).toInt = 17 := (by decide); have l_2 : (2 : Int32).toInt = 2 := (by decide); have l_3 : (3 : Int32).toInt = 3 := (by decide); have l_357 : (357 : Int32).toInt = 357 := (by decide); have l_4 : (4 : Int32).toInt = 4 := (by decide); have qc_11 := c_11; (try simp only [fc_le, fc_lt, fc_eq] at qc_11); have a_1 := fc_kmul (x := (row_14 (17 : Int32).toNatClampNeg)) (k := 4) (n := 4) (by decide) (by omega) (by omega); (try simp only [fc_le, fc_lt, fc_eq]); omega) (by have l_0 : (0 : Int32).toInt = 0 := (by decide); have l_1 : (1 : Int32).toInt = 1 := (by decide); have l_17 : (17 : Int32).toInt = 17 := (by decide); have l_2 : (2 : Int32).toInt = 2 := (by decide); have l_3 : (3 : Int32).toInt = 3 := (by decide); have l_357 : (357 : Int32).toInt = 357 := (by decide); have l_4 : (4 : Int32).toInt = 4 := (by decide); have qc_11 := c_11; (try simp only [fc_le, fc_lt, fc_eq] at qc_11); have a_1 := fc_kmul (x := (row_14 (17 : Int32).toNatClampNeg)) (k := 4) (n := 4) (by decide) (by omega) (by omega); (try simp only [fc_le, fc_lt, fc_eq]); omega)) (cwS 5 hts gX8_store_X8_copy rfl rfl rfl hd_X8_copy ⟨Nat.le_of_ble_eq_true rfl, Nat.le_of_ble_eq_true rfl⟩) rfl hl.1 rfl (Nat.le_of_ble_eq_true rfl) dX8_store_156 ⟨Nat.le_of_ble_eq_true rfl, Nat.le_of_ble_eq_true rfl⟩) (fun u_17 H locs hw_17 hP hD hS => ?_)
          obtain ⟨f_17, rfl⟩ : ∃ z, z = u_17 := ⟨_, rfl⟩
          try dsimp only at hw_17
          have hP : va_P D vwCl [(rw, .inl (tc 0, 357, .inl f_17))] H := hP
          have hD : va_D A [(rw, .inl (tc 0, 357, .inl f_17))] := hD
          exact hret _ _ f_17 _ _ (by rw [hI_71, mX8_store_L71_s, mX8_store_S71]; (try dsimp only); rw [if_pos c_11]; rw [hw_12]; (try dsimp only); rw [hw_13]; (try dsimp only); rw [hw_14]; (try dsimp only); rw [hw_15]; (try dsimp only); rw [hw_16]; (try dsimp only); rw [hw_17]; (try dsimp only); (first | done | rfl)) (hP.sub [0] rfl) (hD.sub [0] (by decide) rfl) hS dX8_store_159
        · refine lv_iload_n hx hb dX8_store_78 rfl (lv_at hl 1 rfl) ?_
          refine lv_if_le (tgt := 114) hx hb dX8_store_79 (by decide) (fun c_18 => ?_) (fun c_18 => ?_)
          · refine lv_aload_n hx hb dX8_store_114 rfl (lv_at hl 3 rfl) ?_
            refine lv_bipush (v := 16) hx hb dX8_store_115 (by decide) ?_
            refine lv_dup2_11 hx hb dX8_store_117 rfl rfl ?_
            refine va_iald (D := D) hx hb hK hP 0 0 rfl rfl (vp_in_iff.mpr (by decide)) dX8_store_118 ?_
            refine lv_iconst (v := 1) hx hb dX8_store_119 (by decide) ?_
            refine lv_iadd hx hb dX8_store_120 ?_
            refine va_iast (D := D) hx hb hK hP hD hS 0 0 rfl rfl (vp_in_iff.mpr (by decide)) dX8_store_121 (fun H locs hP hD hS => ?_)
            have hP : va_P D vwCl [(rw, .inl (tc 0, 357, .inl (upd rowh71 (16 : Int32).toNatClampNeg ((rowh71 (16 : Int32).toNatClampNeg) + 1))))] H := hP
            have hD : va_D A [(rw, .inl (tc 0, 357, .inl (upd rowh71 (16 : Int32).toNatClampNeg ((rowh71 (16 : Int32).toNatClampNeg) + 1))))] := hD
            obtain ⟨row_19, hw_19⟩ : ∃ z, (upd rowh71 (16 : Int32).toNatClampNeg ((rowh71 (16 : Int32).toNatClampNeg) + 1)) = z := ⟨_, rfl⟩
            rw [hw_19] at hP hD
            have hv3_19 : (row_19 (3 : Int32).toNatClampNeg).toInt = (rowh71 (3 : Int32).toNatClampNeg).toInt := by rw [← hw_19, pk_un (by decide)]
            have hv17_19 : (row_19 (17 : Int32).toNatClampNeg).toInt = (rowh71 (17 : Int32).toNatClampNeg).toInt := by rw [← hw_19, pk_un (by decide)]
            refine lv_aload_n hx hb dX8_store_122 rfl (lv_at hl 3 rfl) ?_
            refine lv_bipush (v := 12) hx hb dX8_store_123 (by decide) ?_
            refine lv_dup2_11 hx hb dX8_store_125 rfl rfl ?_
            refine va_iald (D := D) hx hb hK hP 0 0 rfl rfl (vp_in_iff.mpr (by decide)) dX8_store_126 ?_
            refine lv_iconst (v := 1) hx hb dX8_store_127 (by decide) ?_
            refine lv_iadd hx hb dX8_store_128 ?_
            refine va_iast (D := D) hx hb hK hP hD hS 0 0 rfl rfl (vp_in_iff.mpr (by decide)) dX8_store_129 (fun H locs hP hD hS => ?_)
            have hP : va_P D vwCl [(rw, .inl (tc 0, 357, .inl (upd row_19 (12 : Int32).toNatClampNeg ((row_19 (12 : Int32).toNatClampNeg) + 1))))] H := hP
            have hD : va_D A [(rw, .inl (tc 0, 357, .inl (upd row_19 (12 : Int32).toNatClampNeg ((row_19 (12 : Int32).toNatClampNeg) + 1))))] := hD
            obtain ⟨row_20, hw_20⟩ : ∃ z, (upd row_19 (12 : Int32).toNatClampNeg ((row_19 (12 : Int32).toNatClampNeg) + 1)) = z := ⟨_, rfl⟩
            rw [hw_20] at hP hD
            have hv3_20 : (row_20 (3 : Int32).toNatClampNeg).toInt = (row_19 (3 : Int32).toNatClampNeg).toInt := by rw [← hw_20, pk_un (by decide)]
            have hv17_20 : (row_20 (17 : Int32).toNatClampNeg).toInt = (row_19 (17 : Int32).toNatClampNeg).toInt := by rw [← hw_20, pk_un (by decide)]
            refine lv_aload_n hx hb dX8_store_130 rfl (lv_at hl 3 rfl) ?_
            refine lv_bipush (v := 17) hx hb dX8_store_131 (by decide) ?_
            refine lv_dup2_11 hx hb dX8_store_133 rfl rfl ?_
            refine va_iald (D := D) hx hb hK hP 0 0 rfl rfl (vp_in_iff.mpr (by decide)) dX8_store_134 ?_
            refine lv_iconst (v := 1) hx hb dX8_store_135 (by decide) ?_
            refine lv_isub hx hb dX8_store_136 ?_
            refine va_iast (D := D) hx hb hK hP hD hS 0 0 rfl rfl (vp_in_iff.mpr (by decide)) dX8_store_137 (fun H locs hP hD hS => ?_)
            have hP : va_P D vwCl [(rw, .inl (tc 0, 357, .inl (upd row_20 (17 : Int32).toNatClampNeg ((row_20 (17 : Int32).toNatClampNeg) - 1))))] H := hP
            have hD : va_D A [(rw, .inl (tc 0, 357, .inl (upd row_20 (17 : Int32).toNatClampNeg ((row_20 (17 : Int32).toNatClampNeg) - 1))))] := hD
            obtain ⟨row_21, hw_21⟩ : ∃ z, (upd row_20 (17 : Int32).toNatClampNeg ((row_20 (17 : Int32).toNatClampNeg) - 1)) = z := ⟨_, rfl⟩
            rw [hw_21] at hP hD
            have hv3_21 : (row_21 (3 : Int32).toNatClampNeg).toInt = (row_20 (3 : Int32).toNatClampNeg).toInt := by rw [← hw_21, pk_un (by decide)]
            have hv17_21 : (row_21 (17 : Int32).toNatClampNeg).toInt = (((row_20 (17 : Int32).toNatClampNeg) - 1)).toInt := by rw [← hw_21, pk_us]
            have av21_1 := fc_subk (x := (row_20 (17 : Int32).toNatClampNeg)) (k := 1) (n := 1) (by decide) (by omega) (by omega)
            refine lv_aload_n hx hb dX8_store_138 rfl (lv_at hl 3 rfl) ?_
            refine lv_iconst (v := 1) hx hb dX8_store_139 (by decide) ?_
            refine lv_iconst (v := 0) hx hb dX8_store_140 (by decide) ?_
            refine fc_goi (isC := []) (isR := [0]) (wc := []) (wr := [(rw, .inl (tc 0, 357, .inl row_21))]) hP hD hS hA rfl rfl (by decide) (by decide) (fc_runS (isC := []) (As := [.int 1, .int 0]) (rest := [.ref rw]) hx hb hml hown hts hK hE hP hD hS hA rfl (by decide) (c_X8_waitAt l D tc 1 0 _ ) (cwS 2 hts gX8_store_X8_waitAt rfl rfl rfl hd_X8_waitAt ⟨Nat.le_of_ble_eq_true rfl, Nat.le_of_ble_eq_true rfl⟩) rfl hl.1 rfl (Nat.le_of_ble_eq_true rfl) dX8_store_141 ⟨Nat.le_of_ble_eq_true rfl, Nat.le_of_ble_eq_true rfl⟩) (fun r_22 u_22 H locs hw_22 hP hD hS => ?_)
            try dsimp only at hw_22
            have hP : va_P D vwCl [(rw, .inl (tc 0, 357, .inl row_21))] H := hP
            have hD : va_D A [(rw, .inl (tc 0, 357, .inl row_21))] := hD
            have hf_22 := fx_waitAt hw_22 (by decide) (by decide)
            refine lv_aload_n hx hb dX8_store_144 rfl (lv_at hl 3 rfl) ?_
            refine lv_iconst (v := 0) hx hb dX8_store_145 (by decide) ?_
            refine lv_iconst (v := 0) hx hb dX8_store_146 (by decide) ?_
            refine fc_goi (isC := []) (isR := [0]) (wc := []) (wr := [(rw, .inl (tc 0, 357, .inl row_21))]) hP hD hS hA rfl rfl (by decide) (by decide) (fc_runS (isC := []) (As := [.int 0, .int 0]) (rest := [.ref rw, .int r_22, .ref rw]) hx hb hml hown hts hK hE hP hD hS hA rfl (by decide) (c_X8_waitAt l D tc 0 0 _ ) (cwS 2 hts gX8_store_X8_waitAt rfl rfl rfl hd_X8_waitAt ⟨Nat.le_of_ble_eq_true rfl, Nat.le_of_ble_eq_true rfl⟩) rfl hl.1 rfl (Nat.le_of_ble_eq_true rfl) dX8_store_147 ⟨Nat.le_of_ble_eq_true rfl, Nat.le_of_ble_eq_true rfl⟩) (fun r_23 u_23 H locs hw_23 hP hD hS => ?_)
            try dsimp only at hw_23
            have hP : va_P D vwCl [(rw, .inl (tc 0, 357, .inl row_21))] H := hP
            have hD : va_D A [(rw, .inl (tc 0, 357, .inl row_21))] := hD
            have hf_23 := fx_waitAt hw_23 (by decide) (by decide)
            refine lv_iconst (v := 4) hx hb dX8_store_150 (by decide) ?_
            refine lv_aload_n hx hb dX8_store_151 rfl (lv_at hl 3 rfl) ?_
            refine lv_bipush (v := 17) hx hb dX8_store_152 (by decide) ?_
            refine va_iald (D := D) hx hb hK hP 0 0 rfl rfl (vp_in_iff.mpr (by decide)) dX8_store_154 ?_
            refine lv_imul hx hb dX8_store_155 ?_
            have l0 : (0 : Int32).toInt = 0 := by decide
            have l1 : (1 : Int32).toInt = 1 := by decide
            refine fc_gov (isC := [0]) (isR := []) (wc := [(rw, .inl (tc 0, 357, .inl row_21))]) (wr := []) hP hD hS hA rfl rfl (by decide) (by decide) (fc_runS (isC := [0]) (As := [.ref rw, .int r_22, .ref rw, .int r_23, .int (4 * (row_21 (17 : Int32).toNatClampNeg))]) (rest := []) hx hb hml hown hts hK hE hP hD hS hA rfl (by decide) (c_X8_copy_same l D tc rw 357 row_21 r_22 r_23 (4 * (row_21 (17 : Int32).toNatClampNeg)) _ (by have l_0 : (0 : Int32).toInt = 0 := (by decide); have l_1 : (1 : Int32).toInt = 1 := (by decide); have l_17 : (17 : Int32).toInt = 17 := (by decide); have l_2 : (2 : Int32).toInt = 2 := (by decide); have l_3 : (3 : Int32).toInt = 3 := (by decide); have l_357 : (357 : Int32).toInt = 357 := (by decide); have l_4 : (4 : Int32).toInt = 4 := (by decide); have qc_11 := c_11; (try simp only [fc_le, fc_lt, fc_eq] at qc_11); have qc_18 := c_18; (try simp only [fc_le, fc_lt, fc_eq] at qc_18); have a_1 := fc_kmul (x := (row_21 (17 : Int32).toNatClampNeg)) (k := 4) (n := 4) (by decide) (by omega) (by omega); (try simp only [fc_le, fc_lt, fc_eq]); omega) (by have l_0 : (0 : Int32).toInt = 0 := (by decide); have l_1 : (1 : Int32).toInt = 1 := (by decide); have l_17 : (17 : Int32).toInt = 17 := (by decide); have l_2 : (2 : Int32).toInt = 2 := (by decide); have l_3 : (3 : Int32).toInt = 3 := (by decide); have l_357 : (357 : Int32).toInt = 357 := (by decide); have l_4 : (4 : Int32).toInt = 4 := (by decide); have qc_11 := c_11; (try simp only [fc_le, fc_lt, fc_eq] at qc_11); have qc_18 := c_18; (try simp only [fc_le, fc_lt, fc_eq] at qc_18); have a_1 := fc_kmul (x := (row_21 (17 : Int32).toNatClampNeg)) (k := 4) (n := 4) (by decide) (by omega) (by omega); (try simp only [fc_le, fc_lt, fc_eq]); omega) (by have l_0 : (0 : Int32).toInt = 0 := (by decide); have l_1 : (1 : Int32).toInt = 1 := (by decide); have l_17 : (17 : Int32).toInt = 17 := (by decide); have l_2 : (2 : Int32).toInt = 2 := (by decide); have l_3 : (3 : Int32).toInt = 3 := (by decide); have l_357 : (357 : Int32).toInt = 357 := (by decide); have l_4 : (4 : Int32).toInt = 4 := (by decide); have qc_11 := c_11; (try simp only [fc_le, fc_lt, fc_eq] at qc_11); have qc_18 := c_18; (try simp only [fc_le, fc_lt, fc_eq] at qc_18); have a_1 := fc_kmul (x := (row_21 (17 : Int32).toNatClampNeg)) (k := 4) (n := 4) (by decide) (by omega) (by omega); (try simp only [fc_le, fc_lt, fc_eq]); omega)) (cwS 5 hts gX8_store_X8_copy rfl rfl rfl hd_X8_copy ⟨Nat.le_of_ble_eq_true rfl, Nat.le_of_ble_eq_true rfl⟩) rfl hl.1 rfl (Nat.le_of_ble_eq_true rfl) dX8_store_156 ⟨Nat.le_of_ble_eq_true rfl, Nat.le_of_ble_eq_true rfl⟩) (fun u_24 H locs hw_24 hP hD hS => ?_)
            obtain ⟨f_24, rfl⟩ : ∃ z, z = u_24 := ⟨_, rfl⟩
            try dsimp only at hw_24
            have hP : va_P D vwCl [(rw, .inl (tc 0, 357, .inl f_24))] H := hP
            have hD : va_D A [(rw, .inl (tc 0, 357, .inl f_24))] := hD
            exact hret _ _ f_24 _ _ (by rw [hI_71, mX8_store_L71_s, mX8_store_S71]; (try dsimp only); rw [if_neg c_11]; rw [if_pos c_18]; rw [hw_19]; (try dsimp only); rw [hw_20]; (try dsimp only); rw [hw_21]; (try dsimp only); rw [hw_22]; (try dsimp only); rw [hw_23]; (try dsimp only); rw [hw_24]; (try dsimp only); (first | done | rfl)) (hP.sub [0] rfl) (hD.sub [0] (by decide) rfl) hS dX8_store_159
          · refine lv_aload_n hx hb dX8_store_82 rfl (lv_at hl 3 rfl) ?_
            refine lv_bipush (v := 19) hx hb dX8_store_83 (by decide) ?_
            refine lv_iload_n hx hb dX8_store_85 rfl (lv_at hl 0 rfl) ?_
            refine lv_iadd hx hb dX8_store_86 ?_
            refine va_iald (D := D) hx hb hK hP 0 0 rfl rfl (by have l_0 : (0 : Int32).toInt = 0 := (by decide); have l_1 : (1 : Int32).toInt = 1 := (by decide); have l_19 : (19 : Int32).toInt = 19 := (by decide); have l_2 : (2 : Int32).toInt = 2 := (by decide); have l_3 : (3 : Int32).toInt = 3 := (by decide); have l_4 : (4 : Int32).toInt = 4 := (by decide); have qc_11 := c_11; (try simp only [fc_le, fc_lt, fc_eq] at qc_11); have qc_18 := c_18; (try simp only [fc_le, fc_lt, fc_eq] at qc_18); have a_1 := fc_kadd (x := x3h71) (k := 19) (n := 19) (by decide) (by omega) (by omega); rw [vp_in_iff]; omega) dX8_store_87 ?_
            refine lv_iconst (v := (-1)) hx hb dX8_store_88 (by decide) ?_
            refine lv_icmp_ne (tgt := 108) hx hb dX8_store_89 (by decide) (fun c_25 => ?_) (fun c_25 => ?_)
            · refine lv_iinc (v := (x3h71 + 1)) (lv' := [(3, .int (x3h71 + 1)), (2, .int x2h71), (1, .int (row (16 : Int32).toNatClampNeg)), (0, .ref rw)]) hx hb dX8_store_108 hl (k := 0) rfl rfl (by decide) rfl (fun ls hl => ?_)
              refine lv_goto (tgt := 71) hx hb dX8_store_111 (by decide) ?_
              exact ih_71 (i_71 + 1) x2h71 (x3h71 + 1) rowh71 (by rw [hb_71]; exact nI_1 _) (by have l_mm1m : ((-1) : Int32).toInt = (-1) := (by decide); have l_0 : (0 : Int32).toInt = 0 := (by decide); have l_1 : (1 : Int32).toInt = 1 := (by decide); have l_19 : (19 : Int32).toInt = 19 := (by decide); have l_2 : (2 : Int32).toInt = 2 := (by decide); have l_3 : (3 : Int32).toInt = 3 := (by decide); have l_4 : (4 : Int32).toInt = 4 := (by decide); have qc_11 := c_11; (try simp only [fc_le, fc_lt, fc_eq] at qc_11); have qc_18 := c_18; (try simp only [fc_le, fc_lt, fc_eq] at qc_18); have qc_25 := c_25; (try simp only [fc_le, fc_lt, fc_eq] at qc_25); skip; omega) (by omega) (by omega) (by rw [hI_71, mX8_store_L71_s, mX8_store_S71]; (try dsimp only); rw [if_neg c_11]; rw [if_neg c_18]; rw [if_neg c_25]; (first | done | rfl)) _ _ (hP.sub [0] rfl) (hD.sub [0] (by decide) rfl) hS ls (lv_sub hl [0, 1, 2, 3] rfl)
            · refine lv_aload_n hx hb dX8_store_92 rfl (lv_at hl 3 rfl) ?_
              refine lv_bipush (v := 19) hx hb dX8_store_93 (by decide) ?_
              refine lv_iload_n hx hb dX8_store_95 rfl (lv_at hl 0 rfl) ?_
              refine lv_iadd hx hb dX8_store_96 ?_
              refine lv_aload_n hx hb dX8_store_97 rfl (lv_at hl 3 rfl) ?_
              refine lv_iload_n hx hb dX8_store_98 rfl (lv_at hl 2 rfl) ?_
              refine lv_iconst (v := 0) hx hb dX8_store_99 (by decide) ?_
              refine fc_goi (isC := []) (isR := [0]) (wc := []) (wr := [(rw, .inl (tc 0, 357, .inl rowh71))]) hP hD hS hA rfl rfl (by decide) (by decide) (fc_runS (isC := []) (As := [.int (row (16 : Int32).toNatClampNeg), .int 0]) (rest := [.ref rw, .int (19 + x3h71), .ref rw]) hx hb hml hown hts hK hE hP hD hS hA rfl (by decide) (c_X8_keptAt l D tc (row (16 : Int32).toNatClampNeg) 0 _ ) (cwS 2 hts gX8_store_X8_keptAt rfl rfl rfl hd_X8_keptAt ⟨Nat.le_of_ble_eq_true rfl, Nat.le_of_ble_eq_true rfl⟩) rfl hl.1 rfl (Nat.le_of_ble_eq_true rfl) dX8_store_100 ⟨Nat.le_of_ble_eq_true rfl, Nat.le_of_ble_eq_true rfl⟩) (fun r_26 u_26 H locs hw_26 hP hD hS => ?_)
              try dsimp only at hw_26
              have hP : va_P D vwCl [(rw, .inl (tc 0, 357, .inl rowh71))] H := hP
              have hD : va_D A [(rw, .inl (tc 0, 357, .inl rowh71))] := hD
              have hf_26 := fx_keptAt hw_26 (by omega) (by decide)
              refine va_iald (D := D) hx hb hK hP 0 0 rfl rfl (by have l_mm1m : ((-1) : Int32).toInt = (-1) := (by decide); have l_0 : (0 : Int32).toInt = 0 := (by decide); have l_1 : (1 : Int32).toInt = 1 := (by decide); have l_19 : (19 : Int32).toInt = 19 := (by decide); have l_2 : (2 : Int32).toInt = 2 := (by decide); have l_3 : (3 : Int32).toInt = 3 := (by decide); have l_4 : (4 : Int32).toInt = 4 := (by decide); have qc_11 := c_11; (try simp only [fc_le, fc_lt, fc_eq] at qc_11); have qc_18 := c_18; (try simp only [fc_le, fc_lt, fc_eq] at qc_18); have qc_25 := c_25; (try simp only [fc_le, fc_lt, fc_eq] at qc_25); rw [vp_in_iff]; omega) dX8_store_103 ?_
              refine va_iast (D := D) hx hb hK hP hD hS 0 0 rfl rfl (by have l_mm1m : ((-1) : Int32).toInt = (-1) := (by decide); have l_0 : (0 : Int32).toInt = 0 := (by decide); have l_1 : (1 : Int32).toInt = 1 := (by decide); have l_19 : (19 : Int32).toInt = 19 := (by decide); have l_2 : (2 : Int32).toInt = 2 := (by decide); have l_3 : (3 : Int32).toInt = 3 := (by decide); have l_4 : (4 : Int32).toInt = 4 := (by decide); have qc_11 := c_11; (try simp only [fc_le, fc_lt, fc_eq] at qc_11); have qc_18 := c_18; (try simp only [fc_le, fc_lt, fc_eq] at qc_18); have qc_25 := c_25; (try simp only [fc_le, fc_lt, fc_eq] at qc_25); have a_1 := fc_kadd (x := x3h71) (k := 19) (n := 19) (by decide) (by omega) (by omega); rw [vp_in_iff]; omega) dX8_store_104 (fun H locs hP hD hS => ?_)
              have hP : va_P D vwCl [(rw, .inl (tc 0, 357, .inl (upd rowh71 ((19 + x3h71) : Int32).toNatClampNeg (rowh71 r_26.toNatClampNeg))))] H := hP
              have hD : va_D A [(rw, .inl (tc 0, 357, .inl (upd rowh71 ((19 + x3h71) : Int32).toNatClampNeg (rowh71 r_26.toNatClampNeg))))] := hD
              obtain ⟨row_27, hw_27⟩ : ∃ z, (upd rowh71 ((19 + x3h71) : Int32).toNatClampNeg (rowh71 r_26.toNatClampNeg)) = z := ⟨_, rfl⟩
              rw [hw_27] at hP hD
              have hv3_27 : (row_27 (3 : Int32).toNatClampNeg).toInt = (rowh71 (3 : Int32).toNatClampNeg).toInt := by rw [← hw_27, pk_un (by have l_mm1m : ((-1) : Int32).toInt = (-1) := (by decide); have l_0 : (0 : Int32).toInt = 0 := (by decide); have l_1 : (1 : Int32).toInt = 1 := (by decide); have l_19 : (19 : Int32).toInt = 19 := (by decide); have l_2 : (2 : Int32).toInt = 2 := (by decide); have l_3 : (3 : Int32).toInt = 3 := (by decide); have l_4 : (4 : Int32).toInt = 4 := (by decide); have qc_11 := c_11; (try simp only [fc_le, fc_lt, fc_eq] at qc_11); have qc_18 := c_18; (try simp only [fc_le, fc_lt, fc_eq] at qc_18); have qc_25 := c_25; (try simp only [fc_le, fc_lt, fc_eq] at qc_25); have a_1 := fc_kadd (x := x3h71) (k := 19) (n := 19) (by decide) (by omega) (by omega); simp only [fc_cl]; omega)]
              have hv17_27 : (row_27 (17 : Int32).toNatClampNeg).toInt = (rowh71 (17 : Int32).toNatClampNeg).toInt := by rw [← hw_27, pk_un (by have l_mm1m : ((-1) : Int32).toInt = (-1) := (by decide); have l_0 : (0 : Int32).toInt = 0 := (by decide); have l_1 : (1 : Int32).toInt = 1 := (by decide); have l_17 : (17 : Int32).toInt = 17 := (by decide); have l_19 : (19 : Int32).toInt = 19 := (by decide); have l_2 : (2 : Int32).toInt = 2 := (by decide); have l_3 : (3 : Int32).toInt = 3 := (by decide); have l_4 : (4 : Int32).toInt = 4 := (by decide); have qc_11 := c_11; (try simp only [fc_le, fc_lt, fc_eq] at qc_11); have qc_18 := c_18; (try simp only [fc_le, fc_lt, fc_eq] at qc_18); have qc_25 := c_25; (try simp only [fc_le, fc_lt, fc_eq] at qc_25); have a_1 := fc_kadd (x := x3h71) (k := 19) (n := 19) (by decide) (by omega) (by omega); simp only [fc_cl]; omega)]
              refine lv_iinc (v := (x2h71 + (-1))) (lv' := [(2, .int (x2h71 + (-1))), (3, .int x3h71), (1, .int (row (16 : Int32).toNatClampNeg)), (0, .ref rw)]) hx hb dX8_store_105 hl (k := 1) rfl rfl (by decide) rfl (fun ls hl => ?_)
              refine lv_iinc (v := (x3h71 + 1)) (lv' := [(3, .int (x3h71 + 1)), (2, .int (x2h71 + (-1))), (1, .int (row (16 : Int32).toNatClampNeg)), (0, .ref rw)]) hx hb dX8_store_108 hl (k := 1) rfl rfl (by decide) rfl (fun ls hl => ?_)
              refine lv_goto (tgt := 71) hx hb dX8_store_111 (by decide) ?_
              exact ih_71 (i_71 + 1) (x2h71 + (-1)) (x3h71 + 1) row_27 (by rw [hb_71]; exact nI_1 _) (by have l_mm1m : ((-1) : Int32).toInt = (-1) := (by decide); have l_0 : (0 : Int32).toInt = 0 := (by decide); have l_1 : (1 : Int32).toInt = 1 := (by decide); have l_19 : (19 : Int32).toInt = 19 := (by decide); have l_2 : (2 : Int32).toInt = 2 := (by decide); have l_3 : (3 : Int32).toInt = 3 := (by decide); have l_4 : (4 : Int32).toInt = 4 := (by decide); have qc_11 := c_11; (try simp only [fc_le, fc_lt, fc_eq] at qc_11); have qc_18 := c_18; (try simp only [fc_le, fc_lt, fc_eq] at qc_18); have qc_25 := c_25; (try simp only [fc_le, fc_lt, fc_eq] at qc_25); skip; omega) (by omega) (by omega) (by rw [hI_71, mX8_store_L71_s, mX8_store_S71]; (try dsimp only); rw [if_neg c_11]; rw [if_neg c_18]; rw [if_pos c_25]; rw [hw_26]; (try dsimp only); rw [hw_27]; (try dsimp only); (first | done | rfl)) _ _ (hP.sub [0] rfl) (hD.sub [0] (by decide) rfl) hS ls (lv_sub hl [0, 1, 2, 3] rfl)
    exact loop_71 49 0 (row_9 r_10.toNatClampNeg) 0 row_9 nI_0.symm (by omega) (by omega) (by omega) (by rw [mX8_store]; (try dsimp only); rw [hw_1]; (try dsimp only); rw [hw_2]; (try dsimp only); rw [hw_3]; (try dsimp only); rw [hw_4]; (try dsimp only); rw [hw_5]; (try dsimp only); rw [hw_6]; (try dsimp only); rw [if_pos c_8]; rw [hw_9]; (try dsimp only); rw [hw_10]; (try dsimp only); (first | done | rfl)) _ _ (hP.sub [0] rfl) (hD.sub [0] (by decide) rfl) hS ls (lv_sub hl [0, 1, 2, 3] rfl)
  · refine lv_iconst (v := 1) hx hb dX8_store_54 (by decide) ?_
    refine lv_goto (tgt := 59) hx hb dX8_store_55 (by decide) ?_
    refine lv_iadd hx hb dX8_store_59 ?_
    refine va_iast (D := D) hx hb hK hP hD hS 0 0 rfl rfl (vp_in_iff.mpr (by decide)) dX8_store_60 (fun H locs hP hD hS => ?_)
    have hP : va_P D vwCl [(rw, .inl (tc 0, 357, .inl (upd row_6 (8 : Int32).toNatClampNeg ((row_6 (8 : Int32).toNatClampNeg) + 1))))] H := hP
    have hD : va_D A [(rw, .inl (tc 0, 357, .inl (upd row_6 (8 : Int32).toNatClampNeg ((row_6 (8 : Int32).toNatClampNeg) + 1))))] := hD
    obtain ⟨row_28, hw_28⟩ : ∃ z, (upd row_6 (8 : Int32).toNatClampNeg ((row_6 (8 : Int32).toNatClampNeg) + 1)) = z := ⟨_, rfl⟩
    rw [hw_28] at hP hD
    have hv3_28 : (row_28 (3 : Int32).toNatClampNeg).toInt = (row_6 (3 : Int32).toNatClampNeg).toInt := by rw [← hw_28, pk_un (by decide)]
    have hv17_28 : (row_28 (17 : Int32).toNatClampNeg).toInt = (row_6 (17 : Int32).toNatClampNeg).toInt := by rw [← hw_28, pk_un (by decide)]
    refine lv_aload_n hx hb dX8_store_61 rfl (lv_at hl 1 rfl) ?_
    refine lv_iload_n hx hb dX8_store_62 rfl (lv_at hl 0 rfl) ?_
    refine lv_iconst (v := 2) hx hb dX8_store_63 (by decide) ?_
    refine fc_goi (isC := []) (isR := [0]) (wc := []) (wr := [(rw, .inl (tc 0, 357, .inl row_28))]) hP hD hS hA rfl rfl (by decide) (by decide) (fc_runS (isC := []) (As := [.int (row (16 : Int32).toNatClampNeg), .int 2]) (rest := [.ref rw]) hx hb hml hown hts hK hE hP hD hS hA rfl (by decide) (c_X8_keptAt l D tc (row (16 : Int32).toNatClampNeg) 2 _ ) (cwS 2 hts gX8_store_X8_keptAt rfl rfl rfl hd_X8_keptAt ⟨Nat.le_of_ble_eq_true rfl, Nat.le_of_ble_eq_true rfl⟩) rfl hl.1 rfl (Nat.le_of_ble_eq_true rfl) dX8_store_64 ⟨Nat.le_of_ble_eq_true rfl, Nat.le_of_ble_eq_true rfl⟩) (fun r_29 u_29 H locs hw_29 hP hD hS => ?_)
    try dsimp only at hw_29
    have hP : va_P D vwCl [(rw, .inl (tc 0, 357, .inl row_28))] H := hP
    have hD : va_D A [(rw, .inl (tc 0, 357, .inl row_28))] := hD
    have hf_29 := fx_keptAt hw_29 (by omega) (by decide)
    refine va_iald (D := D) hx hb hK hP 0 0 rfl rfl (by have l_0 : (0 : Int32).toInt = 0 := (by decide); have l_1 : (1 : Int32).toInt = 1 := (by decide); have l_17 : (17 : Int32).toInt = 17 := (by decide); have l_2 : (2 : Int32).toInt = 2 := (by decide); have l_3 : (3 : Int32).toInt = 3 := (by decide); have l_4 : (4 : Int32).toInt = 4 := (by decide); have qc_8 := c_8; (try simp only [fc_le, fc_lt, fc_eq] at qc_8); have qhv3_3 := hv3_3; (try simp only [fc_le, fc_lt, fc_eq] at qhv3_3); have qhv17_3 := hv17_3; (try simp only [fc_le, fc_lt, fc_eq] at qhv17_3); rw [vp_in_iff]; omega) dX8_store_67 ?_
    refine lv_istore_n (lv' := [(2, .int (row_28 r_29.toNatClampNeg)), (1, .int (row (16 : Int32).toNatClampNeg)), (0, .ref rw)]) hx hb dX8_store_68 rfl hl (by decide) rfl (fun ls hl => ?_)
    refine lv_iconst (v := 0) hx hb dX8_store_69 (by decide) ?_
    refine lv_istore_n (lv' := [(3, .int 0), (2, .int (row_28 r_29.toNatClampNeg)), (1, .int (row (16 : Int32).toNatClampNeg)), (0, .ref rw)]) hx hb dX8_store_70 rfl hl (by decide) rfl (fun ls hl => ?_)
    have loop_71 : ∀ (k_71 : Nat) (i_71 : Nat) (x2h71 : Int32) (x3h71 : Int32) (rowh71 : Nat → Int32) (hb_71 : x3h71 = nI i_71) (hm_71 : i_71 ≤ 48 ∧ 48 < i_71 + k_71) (w3_71 : (rowh71 (3 : Int32).toNatClampNeg).toInt = (row (3 : Int32).toNatClampNeg).toInt) (w17_71 : (rowh71 (17 : Int32).toNatClampNeg).toInt = (row (17 : Int32).toNatClampNeg).toInt) (hI_71 : mX8_store row = mX8_store_L71 row k_71 x2h71 x3h71 rowh71) (H : Heap) (locs : List Loc), va_P D vwCl [(rw, .inl (tc 0, 357, .inl rowh71))] H → va_D A [(rw, .inl (tc 0, 357, .inl rowh71))] → va_S A s.heap H locs → ∀ ls : Array Slot, lv_has ls 4 [(3, .int x3h71), (2, .int x2h71), (1, .int (row (16 : Int32).toNatClampNeg)), (0, .ref rw)] → W p l e rmX8_store s m args below meth c H locs 0 0 Q (F0 m 71 ls []) := by
      intro k_71
      induction k_71 with
      | zero =>
        intro i_71 x2h71 x3h71 rowh71 hb_71 hm_71 w3_71 w17_71 hI_71 H locs hP hD hS ls hl
        exact absurd hm_71 (by omega)
      | succ k_71 ih_71 =>
        intro i_71 x2h71 x3h71 rowh71 hb_71 hm_71 w3_71 w17_71 hI_71 H locs hP hD hS ls hl
        have zz_71 := fc_nI (n := i_71) (by omega)
        rw [← hb_71] at zz_71
        refine lv_iload_n hx hb dX8_store_71 rfl (lv_at hl 0 rfl) ?_
        refine lv_aload_n hx hb dX8_store_72 rfl (lv_at hl 3 rfl) ?_
        refine lv_iconst (v := 3) hx hb dX8_store_73 (by decide) ?_
        refine va_iald (D := D) hx hb hK hP 0 0 rfl rfl (vp_in_iff.mpr (by decide)) dX8_store_74 ?_
        refine lv_icmp_ge (tgt := 114) hx hb dX8_store_75 (by decide) (fun c_30 => ?_) (fun c_30 => ?_)
        · refine lv_aload_n hx hb dX8_store_114 rfl (lv_at hl 3 rfl) ?_
          refine lv_bipush (v := 16) hx hb dX8_store_115 (by decide) ?_
          refine lv_dup2_11 hx hb dX8_store_117 rfl rfl ?_
          refine va_iald (D := D) hx hb hK hP 0 0 rfl rfl (vp_in_iff.mpr (by decide)) dX8_store_118 ?_
          refine lv_iconst (v := 1) hx hb dX8_store_119 (by decide) ?_
          refine lv_iadd hx hb dX8_store_120 ?_
          refine va_iast (D := D) hx hb hK hP hD hS 0 0 rfl rfl (vp_in_iff.mpr (by decide)) dX8_store_121 (fun H locs hP hD hS => ?_)
          have hP : va_P D vwCl [(rw, .inl (tc 0, 357, .inl (upd rowh71 (16 : Int32).toNatClampNeg ((rowh71 (16 : Int32).toNatClampNeg) + 1))))] H := hP
          have hD : va_D A [(rw, .inl (tc 0, 357, .inl (upd rowh71 (16 : Int32).toNatClampNeg ((rowh71 (16 : Int32).toNatClampNeg) + 1))))] := hD
          obtain ⟨row_31, hw_31⟩ : ∃ z, (upd rowh71 (16 : Int32).toNatClampNeg ((rowh71 (16 : Int32).toNatClampNeg) + 1)) = z := ⟨_, rfl⟩
          rw [hw_31] at hP hD
          have hv3_31 : (row_31 (3 : Int32).toNatClampNeg).toInt = (rowh71 (3 : Int32).toNatClampNeg).toInt := by rw [← hw_31, pk_un (by decide)]
          have hv17_31 : (row_31 (17 : Int32).toNatClampNeg).toInt = (rowh71 (17 : Int32).toNatClampNeg).toInt := by rw [← hw_31, pk_un (by decide)]
          refine lv_aload_n hx hb dX8_store_122 rfl (lv_at hl 3 rfl) ?_
          refine lv_bipush (v := 12) hx hb dX8_store_123 (by decide) ?_
          refine lv_dup2_11 hx hb dX8_store_125 rfl rfl ?_
          refine va_iald (D := D) hx hb hK hP 0 0 rfl rfl (vp_in_iff.mpr (by decide)) dX8_store_126 ?_
          refine lv_iconst (v := 1) hx hb dX8_store_127 (by decide) ?_
          refine lv_iadd hx hb dX8_store_128 ?_
          refine va_iast (D := D) hx hb hK hP hD hS 0 0 rfl rfl (vp_in_iff.mpr (by decide)) dX8_store_129 (fun H locs hP hD hS => ?_)
          have hP : va_P D vwCl [(rw, .inl (tc 0, 357, .inl (upd row_31 (12 : Int32).toNatClampNeg ((row_31 (12 : Int32).toNatClampNeg) + 1))))] H := hP
          have hD : va_D A [(rw, .inl (tc 0, 357, .inl (upd row_31 (12 : Int32).toNatClampNeg ((row_31 (12 : Int32).toNatClampNeg) + 1))))] := hD
          obtain ⟨row_32, hw_32⟩ : ∃ z, (upd row_31 (12 : Int32).toNatClampNeg ((row_31 (12 : Int32).toNatClampNeg) + 1)) = z := ⟨_, rfl⟩
          rw [hw_32] at hP hD
          have hv3_32 : (row_32 (3 : Int32).toNatClampNeg).toInt = (row_31 (3 : Int32).toNatClampNeg).toInt := by rw [← hw_32, pk_un (by decide)]
          have hv17_32 : (row_32 (17 : Int32).toNatClampNeg).toInt = (row_31 (17 : Int32).toNatClampNeg).toInt := by rw [← hw_32, pk_un (by decide)]
          refine lv_aload_n hx hb dX8_store_130 rfl (lv_at hl 3 rfl) ?_
          refine lv_bipush (v := 17) hx hb dX8_store_131 (by decide) ?_
          refine lv_dup2_11 hx hb dX8_store_133 rfl rfl ?_
          refine va_iald (D := D) hx hb hK hP 0 0 rfl rfl (vp_in_iff.mpr (by decide)) dX8_store_134 ?_
          refine lv_iconst (v := 1) hx hb dX8_store_135 (by decide) ?_
          refine lv_isub hx hb dX8_store_136 ?_
          refine va_iast (D := D) hx hb hK hP hD hS 0 0 rfl rfl (vp_in_iff.mpr (by decide)) dX8_store_137 (fun H locs hP hD hS => ?_)
          have hP : va_P D vwCl [(rw, .inl (tc 0, 357, .inl (upd row_32 (17 : Int32).toNatClampNeg ((row_32 (17 : Int32).toNatClampNeg) - 1))))] H := hP
          have hD : va_D A [(rw, .inl (tc 0, 357, .inl (upd row_32 (17 : Int32).toNatClampNeg ((row_32 (17 : Int32).toNatClampNeg) - 1))))] := hD
          obtain ⟨row_33, hw_33⟩ : ∃ z, (upd row_32 (17 : Int32).toNatClampNeg ((row_32 (17 : Int32).toNatClampNeg) - 1)) = z := ⟨_, rfl⟩
          rw [hw_33] at hP hD
          have hv3_33 : (row_33 (3 : Int32).toNatClampNeg).toInt = (row_32 (3 : Int32).toNatClampNeg).toInt := by rw [← hw_33, pk_un (by decide)]
          have hv17_33 : (row_33 (17 : Int32).toNatClampNeg).toInt = (((row_32 (17 : Int32).toNatClampNeg) - 1)).toInt := by rw [← hw_33, pk_us]
          have av33_1 := fc_subk (x := (row_32 (17 : Int32).toNatClampNeg)) (k := 1) (n := 1) (by decide) (by omega) (by omega)
          refine lv_aload_n hx hb dX8_store_138 rfl (lv_at hl 3 rfl) ?_
          refine lv_iconst (v := 1) hx hb dX8_store_139 (by decide) ?_
          refine lv_iconst (v := 0) hx hb dX8_store_140 (by decide) ?_
          refine fc_goi (isC := []) (isR := [0]) (wc := []) (wr := [(rw, .inl (tc 0, 357, .inl row_33))]) hP hD hS hA rfl rfl (by decide) (by decide) (fc_runS (isC := []) (As := [.int 1, .int 0]) (rest := [.ref rw]) hx hb hml hown hts hK hE hP hD hS hA rfl (by decide) (c_X8_waitAt l D tc 1 0 _ ) (cwS 2 hts gX8_store_X8_waitAt rfl rfl rfl hd_X8_waitAt ⟨Nat.le_of_ble_eq_true rfl, Nat.le_of_ble_eq_true rfl⟩) rfl hl.1 rfl (Nat.le_of_ble_eq_true rfl) dX8_store_141 ⟨Nat.le_of_ble_eq_true rfl, Nat.le_of_ble_eq_true rfl⟩) (fun r_34 u_34 H locs hw_34 hP hD hS => ?_)
          try dsimp only at hw_34
          have hP : va_P D vwCl [(rw, .inl (tc 0, 357, .inl row_33))] H := hP
          have hD : va_D A [(rw, .inl (tc 0, 357, .inl row_33))] := hD
          have hf_34 := fx_waitAt hw_34 (by decide) (by decide)
          refine lv_aload_n hx hb dX8_store_144 rfl (lv_at hl 3 rfl) ?_
          refine lv_iconst (v := 0) hx hb dX8_store_145 (by decide) ?_
          refine lv_iconst (v := 0) hx hb dX8_store_146 (by decide) ?_
          refine fc_goi (isC := []) (isR := [0]) (wc := []) (wr := [(rw, .inl (tc 0, 357, .inl row_33))]) hP hD hS hA rfl rfl (by decide) (by decide) (fc_runS (isC := []) (As := [.int 0, .int 0]) (rest := [.ref rw, .int r_34, .ref rw]) hx hb hml hown hts hK hE hP hD hS hA rfl (by decide) (c_X8_waitAt l D tc 0 0 _ ) (cwS 2 hts gX8_store_X8_waitAt rfl rfl rfl hd_X8_waitAt ⟨Nat.le_of_ble_eq_true rfl, Nat.le_of_ble_eq_true rfl⟩) rfl hl.1 rfl (Nat.le_of_ble_eq_true rfl) dX8_store_147 ⟨Nat.le_of_ble_eq_true rfl, Nat.le_of_ble_eq_true rfl⟩) (fun r_35 u_35 H locs hw_35 hP hD hS => ?_)
          try dsimp only at hw_35
          have hP : va_P D vwCl [(rw, .inl (tc 0, 357, .inl row_33))] H := hP
          have hD : va_D A [(rw, .inl (tc 0, 357, .inl row_33))] := hD
          have hf_35 := fx_waitAt hw_35 (by decide) (by decide)
          refine lv_iconst (v := 4) hx hb dX8_store_150 (by decide) ?_
          refine lv_aload_n hx hb dX8_store_151 rfl (lv_at hl 3 rfl) ?_
          refine lv_bipush (v := 17) hx hb dX8_store_152 (by decide) ?_
          refine va_iald (D := D) hx hb hK hP 0 0 rfl rfl (vp_in_iff.mpr (by decide)) dX8_store_154 ?_
          refine lv_imul hx hb dX8_store_155 ?_
          have l0 : (0 : Int32).toInt = 0 := by decide
          have l1 : (1 : Int32).toInt = 1 := by decide
          refine fc_gov (isC := [0]) (isR := []) (wc := [(rw, .inl (tc 0, 357, .inl row_33))]) (wr := []) hP hD hS hA rfl rfl (by decide) (by decide) (fc_runS (isC := [0]) (As := [.ref rw, .int r_34, .ref rw, .int r_35, .int (4 * (row_33 (17 : Int32).toNatClampNeg))]) (rest := []) hx hb hml hown hts hK hE hP hD hS hA rfl (by decide) (c_X8_copy_same l D tc rw 357 row_33 r_34 r_35 (4 * (row_33 (17 : Int32).toNatClampNeg)) _ (by have l_0 : (0 : Int32).toInt = 0 := (by decide); have l_1 : (1 : Int32).toInt = 1 := (by decide); have l_17 : (17 : Int32).toInt = 17 := (by decide); have l_2 : (2 : Int32).toInt = 2 := (by decide); have l_3 : (3 : Int32).toInt = 3 := (by decide); have l_357 : (357 : Int32).toInt = 357 := (by decide); have l_4 : (4 : Int32).toInt = 4 := (by decide); have qc_30 := c_30; (try simp only [fc_le, fc_lt, fc_eq] at qc_30); have a_1 := fc_kmul (x := (row_33 (17 : Int32).toNatClampNeg)) (k := 4) (n := 4) (by decide) (by omega) (by omega); (try simp only [fc_le, fc_lt, fc_eq]); omega) (by have l_0 : (0 : Int32).toInt = 0 := (by decide); have l_1 : (1 : Int32).toInt = 1 := (by decide); have l_17 : (17 : Int32).toInt = 17 := (by decide); have l_2 : (2 : Int32).toInt = 2 := (by decide); have l_3 : (3 : Int32).toInt = 3 := (by decide); have l_357 : (357 : Int32).toInt = 357 := (by decide); have l_4 : (4 : Int32).toInt = 4 := (by decide); have qc_30 := c_30; (try simp only [fc_le, fc_lt, fc_eq] at qc_30); have a_1 := fc_kmul (x := (row_33 (17 : Int32).toNatClampNeg)) (k := 4) (n := 4) (by decide) (by omega) (by omega); (try simp only [fc_le, fc_lt, fc_eq]); omega) (by have l_0 : (0 : Int32).toInt = 0 := (by decide); have l_1 : (1 : Int32).toInt = 1 := (by decide); have l_17 : (17 : Int32).toInt = 17 := (by decide); have l_2 : (2 : Int32).toInt = 2 := (by decide); have l_3 : (3 : Int32).toInt = 3 := (by decide); have l_357 : (357 : Int32).toInt = 357 := (by decide); have l_4 : (4 : Int32).toInt = 4 := (by decide); have qc_30 := c_30; (try simp only [fc_le, fc_lt, fc_eq] at qc_30); have a_1 := fc_kmul (x := (row_33 (17 : Int32).toNatClampNeg)) (k := 4) (n := 4) (by decide) (by omega) (by omega); (try simp only [fc_le, fc_lt, fc_eq]); omega)) (cwS 5 hts gX8_store_X8_copy rfl rfl rfl hd_X8_copy ⟨Nat.le_of_ble_eq_true rfl, Nat.le_of_ble_eq_true rfl⟩) rfl hl.1 rfl (Nat.le_of_ble_eq_true rfl) dX8_store_156 ⟨Nat.le_of_ble_eq_true rfl, Nat.le_of_ble_eq_true rfl⟩) (fun u_36 H locs hw_36 hP hD hS => ?_)
          obtain ⟨f_36, rfl⟩ : ∃ z, z = u_36 := ⟨_, rfl⟩
          try dsimp only at hw_36
          have hP : va_P D vwCl [(rw, .inl (tc 0, 357, .inl f_36))] H := hP
          have hD : va_D A [(rw, .inl (tc 0, 357, .inl f_36))] := hD
          exact hret _ _ f_36 _ _ (by rw [hI_71, mX8_store_L71_s, mX8_store_S71]; (try dsimp only); rw [if_pos c_30]; rw [hw_31]; (try dsimp only); rw [hw_32]; (try dsimp only); rw [hw_33]; (try dsimp only); rw [hw_34]; (try dsimp only); rw [hw_35]; (try dsimp only); rw [hw_36]; (try dsimp only); (first | done | rfl)) (hP.sub [0] rfl) (hD.sub [0] (by decide) rfl) hS dX8_store_159
        · refine lv_iload_n hx hb dX8_store_78 rfl (lv_at hl 1 rfl) ?_
          refine lv_if_le (tgt := 114) hx hb dX8_store_79 (by decide) (fun c_37 => ?_) (fun c_37 => ?_)
          · refine lv_aload_n hx hb dX8_store_114 rfl (lv_at hl 3 rfl) ?_
            refine lv_bipush (v := 16) hx hb dX8_store_115 (by decide) ?_
            refine lv_dup2_11 hx hb dX8_store_117 rfl rfl ?_
            refine va_iald (D := D) hx hb hK hP 0 0 rfl rfl (vp_in_iff.mpr (by decide)) dX8_store_118 ?_
            refine lv_iconst (v := 1) hx hb dX8_store_119 (by decide) ?_
            refine lv_iadd hx hb dX8_store_120 ?_
            refine va_iast (D := D) hx hb hK hP hD hS 0 0 rfl rfl (vp_in_iff.mpr (by decide)) dX8_store_121 (fun H locs hP hD hS => ?_)
            have hP : va_P D vwCl [(rw, .inl (tc 0, 357, .inl (upd rowh71 (16 : Int32).toNatClampNeg ((rowh71 (16 : Int32).toNatClampNeg) + 1))))] H := hP
            have hD : va_D A [(rw, .inl (tc 0, 357, .inl (upd rowh71 (16 : Int32).toNatClampNeg ((rowh71 (16 : Int32).toNatClampNeg) + 1))))] := hD
            obtain ⟨row_38, hw_38⟩ : ∃ z, (upd rowh71 (16 : Int32).toNatClampNeg ((rowh71 (16 : Int32).toNatClampNeg) + 1)) = z := ⟨_, rfl⟩
            rw [hw_38] at hP hD
            have hv3_38 : (row_38 (3 : Int32).toNatClampNeg).toInt = (rowh71 (3 : Int32).toNatClampNeg).toInt := by rw [← hw_38, pk_un (by decide)]
            have hv17_38 : (row_38 (17 : Int32).toNatClampNeg).toInt = (rowh71 (17 : Int32).toNatClampNeg).toInt := by rw [← hw_38, pk_un (by decide)]
            refine lv_aload_n hx hb dX8_store_122 rfl (lv_at hl 3 rfl) ?_
            refine lv_bipush (v := 12) hx hb dX8_store_123 (by decide) ?_
            refine lv_dup2_11 hx hb dX8_store_125 rfl rfl ?_
            refine va_iald (D := D) hx hb hK hP 0 0 rfl rfl (vp_in_iff.mpr (by decide)) dX8_store_126 ?_
            refine lv_iconst (v := 1) hx hb dX8_store_127 (by decide) ?_
            refine lv_iadd hx hb dX8_store_128 ?_
            refine va_iast (D := D) hx hb hK hP hD hS 0 0 rfl rfl (vp_in_iff.mpr (by decide)) dX8_store_129 (fun H locs hP hD hS => ?_)
            have hP : va_P D vwCl [(rw, .inl (tc 0, 357, .inl (upd row_38 (12 : Int32).toNatClampNeg ((row_38 (12 : Int32).toNatClampNeg) + 1))))] H := hP
            have hD : va_D A [(rw, .inl (tc 0, 357, .inl (upd row_38 (12 : Int32).toNatClampNeg ((row_38 (12 : Int32).toNatClampNeg) + 1))))] := hD
            obtain ⟨row_39, hw_39⟩ : ∃ z, (upd row_38 (12 : Int32).toNatClampNeg ((row_38 (12 : Int32).toNatClampNeg) + 1)) = z := ⟨_, rfl⟩
            rw [hw_39] at hP hD
            have hv3_39 : (row_39 (3 : Int32).toNatClampNeg).toInt = (row_38 (3 : Int32).toNatClampNeg).toInt := by rw [← hw_39, pk_un (by decide)]
            have hv17_39 : (row_39 (17 : Int32).toNatClampNeg).toInt = (row_38 (17 : Int32).toNatClampNeg).toInt := by rw [← hw_39, pk_un (by decide)]
            refine lv_aload_n hx hb dX8_store_130 rfl (lv_at hl 3 rfl) ?_
            refine lv_bipush (v := 17) hx hb dX8_store_131 (by decide) ?_
            refine lv_dup2_11 hx hb dX8_store_133 rfl rfl ?_
            refine va_iald (D := D) hx hb hK hP 0 0 rfl rfl (vp_in_iff.mpr (by decide)) dX8_store_134 ?_
            refine lv_iconst (v := 1) hx hb dX8_store_135 (by decide) ?_
            refine lv_isub hx hb dX8_store_136 ?_
            refine va_iast (D := D) hx hb hK hP hD hS 0 0 rfl rfl (vp_in_iff.mpr (by decide)) dX8_store_137 (fun H locs hP hD hS => ?_)
            have hP : va_P D vwCl [(rw, .inl (tc 0, 357, .inl (upd row_39 (17 : Int32).toNatClampNeg ((row_39 (17 : Int32).toNatClampNeg) - 1))))] H := hP
            have hD : va_D A [(rw, .inl (tc 0, 357, .inl (upd row_39 (17 : Int32).toNatClampNeg ((row_39 (17 : Int32).toNatClampNeg) - 1))))] := hD
            obtain ⟨row_40, hw_40⟩ : ∃ z, (upd row_39 (17 : Int32).toNatClampNeg ((row_39 (17 : Int32).toNatClampNeg) - 1)) = z := ⟨_, rfl⟩
            rw [hw_40] at hP hD
            have hv3_40 : (row_40 (3 : Int32).toNatClampNeg).toInt = (row_39 (3 : Int32).toNatClampNeg).toInt := by rw [← hw_40, pk_un (by decide)]
            have hv17_40 : (row_40 (17 : Int32).toNatClampNeg).toInt = (((row_39 (17 : Int32).toNatClampNeg) - 1)).toInt := by rw [← hw_40, pk_us]
            have av40_1 := fc_subk (x := (row_39 (17 : Int32).toNatClampNeg)) (k := 1) (n := 1) (by decide) (by omega) (by omega)
            refine lv_aload_n hx hb dX8_store_138 rfl (lv_at hl 3 rfl) ?_
            refine lv_iconst (v := 1) hx hb dX8_store_139 (by decide) ?_
            refine lv_iconst (v := 0) hx hb dX8_store_140 (by decide) ?_
            refine fc_goi (isC := []) (isR := [0]) (wc := []) (wr := [(rw, .inl (tc 0, 357, .inl row_40))]) hP hD hS hA rfl rfl (by decide) (by decide) (fc_runS (isC := []) (As := [.int 1, .int 0]) (rest := [.ref rw]) hx hb hml hown hts hK hE hP hD hS hA rfl (by decide) (c_X8_waitAt l D tc 1 0 _ ) (cwS 2 hts gX8_store_X8_waitAt rfl rfl rfl hd_X8_waitAt ⟨Nat.le_of_ble_eq_true rfl, Nat.le_of_ble_eq_true rfl⟩) rfl hl.1 rfl (Nat.le_of_ble_eq_true rfl) dX8_store_141 ⟨Nat.le_of_ble_eq_true rfl, Nat.le_of_ble_eq_true rfl⟩) (fun r_41 u_41 H locs hw_41 hP hD hS => ?_)
            try dsimp only at hw_41
            have hP : va_P D vwCl [(rw, .inl (tc 0, 357, .inl row_40))] H := hP
            have hD : va_D A [(rw, .inl (tc 0, 357, .inl row_40))] := hD
            have hf_41 := fx_waitAt hw_41 (by decide) (by decide)
            refine lv_aload_n hx hb dX8_store_144 rfl (lv_at hl 3 rfl) ?_
            refine lv_iconst (v := 0) hx hb dX8_store_145 (by decide) ?_
            refine lv_iconst (v := 0) hx hb dX8_store_146 (by decide) ?_
            refine fc_goi (isC := []) (isR := [0]) (wc := []) (wr := [(rw, .inl (tc 0, 357, .inl row_40))]) hP hD hS hA rfl rfl (by decide) (by decide) (fc_runS (isC := []) (As := [.int 0, .int 0]) (rest := [.ref rw, .int r_41, .ref rw]) hx hb hml hown hts hK hE hP hD hS hA rfl (by decide) (c_X8_waitAt l D tc 0 0 _ ) (cwS 2 hts gX8_store_X8_waitAt rfl rfl rfl hd_X8_waitAt ⟨Nat.le_of_ble_eq_true rfl, Nat.le_of_ble_eq_true rfl⟩) rfl hl.1 rfl (Nat.le_of_ble_eq_true rfl) dX8_store_147 ⟨Nat.le_of_ble_eq_true rfl, Nat.le_of_ble_eq_true rfl⟩) (fun r_42 u_42 H locs hw_42 hP hD hS => ?_)
            try dsimp only at hw_42
            have hP : va_P D vwCl [(rw, .inl (tc 0, 357, .inl row_40))] H := hP
            have hD : va_D A [(rw, .inl (tc 0, 357, .inl row_40))] := hD
            have hf_42 := fx_waitAt hw_42 (by decide) (by decide)
            refine lv_iconst (v := 4) hx hb dX8_store_150 (by decide) ?_
            refine lv_aload_n hx hb dX8_store_151 rfl (lv_at hl 3 rfl) ?_
            refine lv_bipush (v := 17) hx hb dX8_store_152 (by decide) ?_
            refine va_iald (D := D) hx hb hK hP 0 0 rfl rfl (vp_in_iff.mpr (by decide)) dX8_store_154 ?_
            refine lv_imul hx hb dX8_store_155 ?_
            have l0 : (0 : Int32).toInt = 0 := by decide
            have l1 : (1 : Int32).toInt = 1 := by decide
            refine fc_gov (isC := [0]) (isR := []) (wc := [(rw, .inl (tc 0, 357, .inl row_40))]) (wr := []) hP hD hS hA rfl rfl (by decide) (by decide) (fc_runS (isC := [0]) (As := [.ref rw, .int r_41, .ref rw, .int r_42, .int (4 * (row_40 (17 : Int32).toNatClampNeg))]) (rest := []) hx hb hml hown hts hK hE hP hD hS hA rfl (by decide) (c_X8_copy_same l D tc rw 357 row_40 r_41 r_42 (4 * (row_40 (17 : Int32).toNatClampNeg)) _ (by have l_0 : (0 : Int32).toInt = 0 := (by decide); have l_1 : (1 : Int32).toInt = 1 := (by decide); have l_17 : (17 : Int32).toInt = 17 := (by decide); have l_2 : (2 : Int32).toInt = 2 := (by decide); have l_3 : (3 : Int32).toInt = 3 := (by decide); have l_357 : (357 : Int32).toInt = 357 := (by decide); have l_4 : (4 : Int32).toInt = 4 := (by decide); have qc_30 := c_30; (try simp only [fc_le, fc_lt, fc_eq] at qc_30); have qc_37 := c_37; (try simp only [fc_le, fc_lt, fc_eq] at qc_37); have a_1 := fc_kmul (x := (row_40 (17 : Int32).toNatClampNeg)) (k := 4) (n := 4) (by decide) (by omega) (by omega); (try simp only [fc_le, fc_lt, fc_eq]); omega) (by have l_0 : (0 : Int32).toInt = 0 := (by decide); have l_1 : (1 : Int32).toInt = 1 := (by decide); have l_17 : (17 : Int32).toInt = 17 := (by decide); have l_2 : (2 : Int32).toInt = 2 := (by decide); have l_3 : (3 : Int32).toInt = 3 := (by decide); have l_357 : (357 : Int32).toInt = 357 := (by decide); have l_4 : (4 : Int32).toInt = 4 := (by decide); have qc_30 := c_30; (try simp only [fc_le, fc_lt, fc_eq] at qc_30); have qc_37 := c_37; (try simp only [fc_le, fc_lt, fc_eq] at qc_37); have a_1 := fc_kmul (x := (row_40 (17 : Int32).toNatClampNeg)) (k := 4) (n := 4) (by decide) (by omega) (by omega); (try simp only [fc_le, fc_lt, fc_eq]); omega) (by have l_0 : (0 : Int32).toInt = 0 := (by decide); have l_1 : (1 : Int32).toInt = 1 := (by decide); have l_17 : (17 : Int32).toInt = 17 := (by decide); have l_2 : (2 : Int32).toInt = 2 := (by decide); have l_3 : (3 : Int32).toInt = 3 := (by decide); have l_357 : (357 : Int32).toInt = 357 := (by decide); have l_4 : (4 : Int32).toInt = 4 := (by decide); have qc_30 := c_30; (try simp only [fc_le, fc_lt, fc_eq] at qc_30); have qc_37 := c_37; (try simp only [fc_le, fc_lt, fc_eq] at qc_37); have a_1 := fc_kmul (x := (row_40 (17 : Int32).toNatClampNeg)) (k := 4) (n := 4) (by decide) (by omega) (by omega); (try simp only [fc_le, fc_lt, fc_eq]); omega)) (cwS 5 hts gX8_store_X8_copy rfl rfl rfl hd_X8_copy ⟨Nat.le_of_ble_eq_true rfl, Nat.le_of_ble_eq_true rfl⟩) rfl hl.1 rfl (Nat.le_of_ble_eq_true rfl) dX8_store_156 ⟨Nat.le_of_ble_eq_true rfl, Nat.le_of_ble_eq_true rfl⟩) (fun u_43 H locs hw_43 hP hD hS => ?_)
            obtain ⟨f_43, rfl⟩ : ∃ z, z = u_43 := ⟨_, rfl⟩
            try dsimp only at hw_43
            have hP : va_P D vwCl [(rw, .inl (tc 0, 357, .inl f_43))] H := hP
            have hD : va_D A [(rw, .inl (tc 0, 357, .inl f_43))] := hD
            exact hret _ _ f_43 _ _ (by rw [hI_71, mX8_store_L71_s, mX8_store_S71]; (try dsimp only); rw [if_neg c_30]; rw [if_pos c_37]; rw [hw_38]; (try dsimp only); rw [hw_39]; (try dsimp only); rw [hw_40]; (try dsimp only); rw [hw_41]; (try dsimp only); rw [hw_42]; (try dsimp only); rw [hw_43]; (try dsimp only); (first | done | rfl)) (hP.sub [0] rfl) (hD.sub [0] (by decide) rfl) hS dX8_store_159
          · refine lv_aload_n hx hb dX8_store_82 rfl (lv_at hl 3 rfl) ?_
            refine lv_bipush (v := 19) hx hb dX8_store_83 (by decide) ?_
            refine lv_iload_n hx hb dX8_store_85 rfl (lv_at hl 0 rfl) ?_
            refine lv_iadd hx hb dX8_store_86 ?_
            refine va_iald (D := D) hx hb hK hP 0 0 rfl rfl (by have l_0 : (0 : Int32).toInt = 0 := (by decide); have l_1 : (1 : Int32).toInt = 1 := (by decide); have l_19 : (19 : Int32).toInt = 19 := (by decide); have l_2 : (2 : Int32).toInt = 2 := (by decide); have l_3 : (3 : Int32).toInt = 3 := (by decide); have l_4 : (4 : Int32).toInt = 4 := (by decide); have qc_30 := c_30; (try simp only [fc_le, fc_lt, fc_eq] at qc_30); have qc_37 := c_37; (try simp only [fc_le, fc_lt, fc_eq] at qc_37); have a_1 := fc_kadd (x := x3h71) (k := 19) (n := 19) (by decide) (by omega) (by omega); rw [vp_in_iff]; omega) dX8_store_87 ?_
            refine lv_iconst (v := (-1)) hx hb dX8_store_88 (by decide) ?_
            refine lv_icmp_ne (tgt := 108) hx hb dX8_store_89 (by decide) (fun c_44 => ?_) (fun c_44 => ?_)
            · refine lv_iinc (v := (x3h71 + 1)) (lv' := [(3, .int (x3h71 + 1)), (2, .int x2h71), (1, .int (row (16 : Int32).toNatClampNeg)), (0, .ref rw)]) hx hb dX8_store_108 hl (k := 0) rfl rfl (by decide) rfl (fun ls hl => ?_)
              refine lv_goto (tgt := 71) hx hb dX8_store_111 (by decide) ?_
              exact ih_71 (i_71 + 1) x2h71 (x3h71 + 1) rowh71 (by rw [hb_71]; exact nI_1 _) (by have l_mm1m : ((-1) : Int32).toInt = (-1) := (by decide); have l_0 : (0 : Int32).toInt = 0 := (by decide); have l_1 : (1 : Int32).toInt = 1 := (by decide); have l_19 : (19 : Int32).toInt = 19 := (by decide); have l_2 : (2 : Int32).toInt = 2 := (by decide); have l_3 : (3 : Int32).toInt = 3 := (by decide); have l_4 : (4 : Int32).toInt = 4 := (by decide); have qc_30 := c_30; (try simp only [fc_le, fc_lt, fc_eq] at qc_30); have qc_37 := c_37; (try simp only [fc_le, fc_lt, fc_eq] at qc_37); have qc_44 := c_44; (try simp only [fc_le, fc_lt, fc_eq] at qc_44); skip; omega) (by omega) (by omega) (by rw [hI_71, mX8_store_L71_s, mX8_store_S71]; (try dsimp only); rw [if_neg c_30]; rw [if_neg c_37]; rw [if_neg c_44]; (first | done | rfl)) _ _ (hP.sub [0] rfl) (hD.sub [0] (by decide) rfl) hS ls (lv_sub hl [0, 1, 2, 3] rfl)
            · refine lv_aload_n hx hb dX8_store_92 rfl (lv_at hl 3 rfl) ?_
              refine lv_bipush (v := 19) hx hb dX8_store_93 (by decide) ?_
              refine lv_iload_n hx hb dX8_store_95 rfl (lv_at hl 0 rfl) ?_
              refine lv_iadd hx hb dX8_store_96 ?_
              refine lv_aload_n hx hb dX8_store_97 rfl (lv_at hl 3 rfl) ?_
              refine lv_iload_n hx hb dX8_store_98 rfl (lv_at hl 2 rfl) ?_
              refine lv_iconst (v := 0) hx hb dX8_store_99 (by decide) ?_
              refine fc_goi (isC := []) (isR := [0]) (wc := []) (wr := [(rw, .inl (tc 0, 357, .inl rowh71))]) hP hD hS hA rfl rfl (by decide) (by decide) (fc_runS (isC := []) (As := [.int (row (16 : Int32).toNatClampNeg), .int 0]) (rest := [.ref rw, .int (19 + x3h71), .ref rw]) hx hb hml hown hts hK hE hP hD hS hA rfl (by decide) (c_X8_keptAt l D tc (row (16 : Int32).toNatClampNeg) 0 _ ) (cwS 2 hts gX8_store_X8_keptAt rfl rfl rfl hd_X8_keptAt ⟨Nat.le_of_ble_eq_true rfl, Nat.le_of_ble_eq_true rfl⟩) rfl hl.1 rfl (Nat.le_of_ble_eq_true rfl) dX8_store_100 ⟨Nat.le_of_ble_eq_true rfl, Nat.le_of_ble_eq_true rfl⟩) (fun r_45 u_45 H locs hw_45 hP hD hS => ?_)
              try dsimp only at hw_45
              have hP : va_P D vwCl [(rw, .inl (tc 0, 357, .inl rowh71))] H := hP
              have hD : va_D A [(rw, .inl (tc 0, 357, .inl rowh71))] := hD
              have hf_45 := fx_keptAt hw_45 (by omega) (by decide)
              refine va_iald (D := D) hx hb hK hP 0 0 rfl rfl (by have l_mm1m : ((-1) : Int32).toInt = (-1) := (by decide); have l_0 : (0 : Int32).toInt = 0 := (by decide); have l_1 : (1 : Int32).toInt = 1 := (by decide); have l_19 : (19 : Int32).toInt = 19 := (by decide); have l_2 : (2 : Int32).toInt = 2 := (by decide); have l_3 : (3 : Int32).toInt = 3 := (by decide); have l_4 : (4 : Int32).toInt = 4 := (by decide); have qc_30 := c_30; (try simp only [fc_le, fc_lt, fc_eq] at qc_30); have qc_37 := c_37; (try simp only [fc_le, fc_lt, fc_eq] at qc_37); have qc_44 := c_44; (try simp only [fc_le, fc_lt, fc_eq] at qc_44); rw [vp_in_iff]; omega) dX8_store_103 ?_
              refine va_iast (D := D) hx hb hK hP hD hS 0 0 rfl rfl (by have l_mm1m : ((-1) : Int32).toInt = (-1) := (by decide); have l_0 : (0 : Int32).toInt = 0 := (by decide); have l_1 : (1 : Int32).toInt = 1 := (by decide); have l_19 : (19 : Int32).toInt = 19 := (by decide); have l_2 : (2 : Int32).toInt = 2 := (by decide); have l_3 : (3 : Int32).toInt = 3 := (by decide); have l_4 : (4 : Int32).toInt = 4 := (by decide); have qc_30 := c_30; (try simp only [fc_le, fc_lt, fc_eq] at qc_30); have qc_37 := c_37; (try simp only [fc_le, fc_lt, fc_eq] at qc_37); have qc_44 := c_44; (try simp only [fc_le, fc_lt, fc_eq] at qc_44); have a_1 := fc_kadd (x := x3h71) (k := 19) (n := 19) (by decide) (by omega) (by omega); rw [vp_in_iff]; omega) dX8_store_104 (fun H locs hP hD hS => ?_)
              have hP : va_P D vwCl [(rw, .inl (tc 0, 357, .inl (upd rowh71 ((19 + x3h71) : Int32).toNatClampNeg (rowh71 r_45.toNatClampNeg))))] H := hP
              have hD : va_D A [(rw, .inl (tc 0, 357, .inl (upd rowh71 ((19 + x3h71) : Int32).toNatClampNeg (rowh71 r_45.toNatClampNeg))))] := hD
              obtain ⟨row_46, hw_46⟩ : ∃ z, (upd rowh71 ((19 + x3h71) : Int32).toNatClampNeg (rowh71 r_45.toNatClampNeg)) = z := ⟨_, rfl⟩
              rw [hw_46] at hP hD
              have hv3_46 : (row_46 (3 : Int32).toNatClampNeg).toInt = (rowh71 (3 : Int32).toNatClampNeg).toInt := by rw [← hw_46, pk_un (by have l_mm1m : ((-1) : Int32).toInt = (-1) := (by decide); have l_0 : (0 : Int32).toInt = 0 := (by decide); have l_1 : (1 : Int32).toInt = 1 := (by decide); have l_19 : (19 : Int32).toInt = 19 := (by decide); have l_2 : (2 : Int32).toInt = 2 := (by decide); have l_3 : (3 : Int32).toInt = 3 := (by decide); have l_4 : (4 : Int32).toInt = 4 := (by decide); have qc_30 := c_30; (try simp only [fc_le, fc_lt, fc_eq] at qc_30); have qc_37 := c_37; (try simp only [fc_le, fc_lt, fc_eq] at qc_37); have qc_44 := c_44; (try simp only [fc_le, fc_lt, fc_eq] at qc_44); have a_1 := fc_kadd (x := x3h71) (k := 19) (n := 19) (by decide) (by omega) (by omega); simp only [fc_cl]; omega)]
              have hv17_46 : (row_46 (17 : Int32).toNatClampNeg).toInt = (rowh71 (17 : Int32).toNatClampNeg).toInt := by rw [← hw_46, pk_un (by have l_mm1m : ((-1) : Int32).toInt = (-1) := (by decide); have l_0 : (0 : Int32).toInt = 0 := (by decide); have l_1 : (1 : Int32).toInt = 1 := (by decide); have l_17 : (17 : Int32).toInt = 17 := (by decide); have l_19 : (19 : Int32).toInt = 19 := (by decide); have l_2 : (2 : Int32).toInt = 2 := (by decide); have l_3 : (3 : Int32).toInt = 3 := (by decide); have l_4 : (4 : Int32).toInt = 4 := (by decide); have qc_30 := c_30; (try simp only [fc_le, fc_lt, fc_eq] at qc_30); have qc_37 := c_37; (try simp only [fc_le, fc_lt, fc_eq] at qc_37); have qc_44 := c_44; (try simp only [fc_le, fc_lt, fc_eq] at qc_44); have a_1 := fc_kadd (x := x3h71) (k := 19) (n := 19) (by decide) (by omega) (by omega); simp only [fc_cl]; omega)]
              refine lv_iinc (v := (x2h71 + (-1))) (lv' := [(2, .int (x2h71 + (-1))), (3, .int x3h71), (1, .int (row (16 : Int32).toNatClampNeg)), (0, .ref rw)]) hx hb dX8_store_105 hl (k := 1) rfl rfl (by decide) rfl (fun ls hl => ?_)
              refine lv_iinc (v := (x3h71 + 1)) (lv' := [(3, .int (x3h71 + 1)), (2, .int (x2h71 + (-1))), (1, .int (row (16 : Int32).toNatClampNeg)), (0, .ref rw)]) hx hb dX8_store_108 hl (k := 1) rfl rfl (by decide) rfl (fun ls hl => ?_)
              refine lv_goto (tgt := 71) hx hb dX8_store_111 (by decide) ?_
              exact ih_71 (i_71 + 1) (x2h71 + (-1)) (x3h71 + 1) row_46 (by rw [hb_71]; exact nI_1 _) (by have l_mm1m : ((-1) : Int32).toInt = (-1) := (by decide); have l_0 : (0 : Int32).toInt = 0 := (by decide); have l_1 : (1 : Int32).toInt = 1 := (by decide); have l_19 : (19 : Int32).toInt = 19 := (by decide); have l_2 : (2 : Int32).toInt = 2 := (by decide); have l_3 : (3 : Int32).toInt = 3 := (by decide); have l_4 : (4 : Int32).toInt = 4 := (by decide); have qc_30 := c_30; (try simp only [fc_le, fc_lt, fc_eq] at qc_30); have qc_37 := c_37; (try simp only [fc_le, fc_lt, fc_eq] at qc_37); have qc_44 := c_44; (try simp only [fc_le, fc_lt, fc_eq] at qc_44); skip; omega) (by omega) (by omega) (by rw [hI_71, mX8_store_L71_s, mX8_store_S71]; (try dsimp only); rw [if_neg c_30]; rw [if_neg c_37]; rw [if_pos c_44]; rw [hw_45]; (try dsimp only); rw [hw_46]; (try dsimp only); (first | done | rfl)) _ _ (hP.sub [0] rfl) (hD.sub [0] (by decide) rfl) hS ls (lv_sub hl [0, 1, 2, 3] rfl)
    exact loop_71 49 0 (row_28 r_29.toNatClampNeg) 0 row_28 nI_0.symm (by omega) (by omega) (by omega) (by rw [mX8_store]; (try dsimp only); rw [hw_1]; (try dsimp only); rw [hw_2]; (try dsimp only); rw [hw_3]; (try dsimp only); rw [hw_4]; (try dsimp only); rw [hw_5]; (try dsimp only); rw [hw_6]; (try dsimp only); rw [if_neg c_8]; rw [hw_28]; (try dsimp only); rw [hw_29]; (try dsimp only); (first | done | rfl)) _ _ (hP.sub [0] rfl) (hD.sub [0] (by decide) rfl) hS ls (lv_sub hl [0, 1, 2, 3] rfl)
