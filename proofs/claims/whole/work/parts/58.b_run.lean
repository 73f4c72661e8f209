/-! The reference: scripts -/
--# X8_runScript
theorem hd_X8_tenTo : yX8_tenTo.cls = RX8 ∧ yX8_tenTo.cls ≠ "java/lang/invoke/MethodHandle" ∧ yX8_tenTo.cls ≠ "java/lang/invoke/VarHandle" ∧ (parseMethodDescriptor yX8_tenTo.desc).map (fun d => d.parameters.length) = some 1 := by decide +kernel
theorem hd_X8_tenTon : yX8_tenTo.cls ≠ "java/lang/invoke/MethodHandle" ∧ yX8_tenTo.cls ≠ "java/lang/invoke/VarHandle" ∧ (parseMethodDescriptor yX8_tenTo.desc).map (fun d => d.parameters.length) = some 1 := by decide +kernel
theorem hd_X8_does : yX8_does.cls = RX8 ∧ yX8_does.cls ≠ "java/lang/invoke/MethodHandle" ∧ yX8_does.cls ≠ "java/lang/invoke/VarHandle" ∧ (parseMethodDescriptor yX8_does.desc).map (fun d => d.parameters.length) = some 1 := by decide +kernel
theorem hd_X8_doesn : yX8_does.cls ≠ "java/lang/invoke/MethodHandle" ∧ yX8_does.cls ≠ "java/lang/invoke/VarHandle" ∧ (parseMethodDescriptor yX8_does.desc).map (fun d => d.parameters.length) = some 1 := by decide +kernel
noncomputable def mX8_runScript_C16 (x5h63 : Int32) (ih_63 : Int32 → (Nat → Int32) → Int32 × Int32 × (Nat → Int32)) (z_16 : Int32 × (Nat → Int32)) : Int32 × Int32 × (Nat → Int32) :=
  if (z_16.1) = 0 then
    (x5h63, 0, (z_16.2))
  else
    ih_63 (x5h63 + 1) (z_16.2)
noncomputable def mX8_runScript_S63 (ss : Int32) (sp : Int32) (ig : Int32) (lf : Int32) (ac : Int32) (row : Nat → Int32) (p0 : Int32) (p1 : Int64) (r_1 : Int32) (ih_63 : Int32 → (Nat → Int32) → Int32 × Int32 × (Nat → Int32)) (x5h63 : Int32) (trowh63 : Nat → Int32) : Int32 × Int32 × (Nat → Int32) :=
  if p0 ≤ x5h63 then
    ((-1), 0, trowh63)
  else
    let r_15 := mX8_tenTo (7 * ((p0 - 1) - x5h63))
    mX8_runScript_C16 x5h63 ih_63 (mX8_does 0 ss sp ig lf ac trowh63 ((((p1 / r_15) - (p1 / r_15) / 10000000 * 10000000) : Int64).toInt32))
noncomputable def mX8_runScript_L63 (ss : Int32) (sp : Int32) (ig : Int32) (lf : Int32) (ac : Int32) (row : Nat → Int32) (p0 : Int32) (p1 : Int64) (r_1 : Int32) (k : Nat) : Int32 → (Nat → Int32) → Int32 × Int32 × (Nat → Int32) := Nat.rec (motive := fun _ => Int32 → (Nat → Int32) → Int32 × Int32 × (Nat → Int32)) (fun x5h63 trowh63 => (0, 0, trowh63)) (fun _ ih => mX8_runScript_S63 ss sp ig lf ac row p0 p1 r_1 ih) k
theorem mX8_runScript_L63_z (ss : Int32) (sp : Int32) (ig : Int32) (lf : Int32) (ac : Int32) (row : Nat → Int32) (p0 : Int32) (p1 : Int64) (r_1 : Int32) (x5h63 : Int32) (trowh63 : Nat → Int32) : mX8_runScript_L63 ss sp ig lf ac row p0 p1 r_1 0 x5h63 trowh63 = (0, 0, trowh63) := rfl
theorem mX8_runScript_L63_s (ss : Int32) (sp : Int32) (ig : Int32) (lf : Int32) (ac : Int32) (row : Nat → Int32) (p0 : Int32) (p1 : Int64) (r_1 : Int32) (k : Nat) (x5h63 : Int32) (trowh63 : Nat → Int32) : mX8_runScript_L63 ss sp ig lf ac row p0 p1 r_1 (k + 1) x5h63 trowh63 = mX8_runScript_S63 ss sp ig lf ac row p0 p1 r_1 (mX8_runScript_L63 ss sp ig lf ac row p0 p1 r_1 k) x5h63 trowh63 := rfl
noncomputable def mX8_runScript (rf : Int32) (ss : Int32) (sp : Int32) (ig : Int32) (lf : Int32) (ac : Int32) (row : Nat → Int32) (trow : Nat → Int32) (p0 : Int32) (p1 : Int64) : Int32 × Int32 × (Nat → Int32) :=
  let r_1 := mX8_in p0.toInt64 1 2
  if r_1 = 0 then
    (0, 1, trow)
  else
    let r_6 := mX8_tenTo (7 * p0)
    let r_7 := mX8_in p1 0 (r_6 - 1)
    if r_7 = 0 then
      (0, 1, trow)
    else
      let trow_13 := mX8_tryIt 0 ss sp ig lf ac row trow
      mX8_runScript_L63 ss sp ig lf ac row p0 p1 r_1 3 0 trow_13
abbrev rmX8_runScript : Room := { frames := 7, cells := 0, slots := 0, locals := 160 }
set_option maxHeartbeats 4000000 in
set_option maxRecDepth 100000 in
theorem c_X8_runScript (l : Launch) (D : va_G) (tc : Nat → ClassId) (mo : Nat) (sc : Nat) (rd : Nat) (nw : Nat) (tr : Nat) (di : Nat) (kp : Nat) (ik : Nat) (rf : Int32) (ss : Int32) (sp : Int32) (ig : Int32) (lf : Int32) (ac : Int32) (row : Nat → Int32) (trow : Nat → Int32) (p0 : Int32) (p1 : Int64) (sz : Nat) (hR : RXn 200 row) : Met l yX8_runScript wsX8_runScript rmX8_runScript (va_Pc [.ref mo, .int p0, .long p1] (fcB D tc [(mo, .inr (8, [.int rf, .ref sc, .int ss, .int sp, .int ig, .int lf, .ref rd, .ref nw, .ref tr, .ref di, .int ac, .ref kp, .ref ik])), (nw, .inl (tc 0, 357, .inl row)), (tr, .inl (tc 0, 357, .inl trow))] sz)) (va_Qi (fun (r : Int32) (u : Int32 × (Nat → Int32)) => mX8_runScript rf ss sp ig lf ac row trow p0 p1 = (r, u)) (fun u t => fcO D (va_A [(mo, .inr (8, [.int rf, .ref sc, .int ss, .int sp, .int ig, .int lf, .ref rd, .ref nw, .ref tr, .ref di, .int ac, .ref kp, .ref ik])), (nw, .inl (tc 0, 357, .inl row)), (tr, .inl (tc 0, 357, .inl trow))] sz) ((fun (u : Int32 × (Nat → Int32)) => [(mo, .inr (8, [.int (u.1), .ref sc, .int ss, .int sp, .int ig, .int lf, .ref rd, .ref nw, .ref tr, .ref di, .int ac, .ref kp, .ref ik])), (nw, .inl (tc 0, 357, .inl row)), (tr, .inl (tc 0, 357, .inl (u.2)))]) u) t) (va_A [(mo, .inr (8, [.int rf, .ref sc, .int ss, .int sp, .int ig, .int lf, .ref rd, .ref nw, .ref tr, .ref di, .int ac, .ref kp, .ref ik])), (nw, .inl (tc 0, 357, .inl row)), (tr, .inl (tc 0, 357, .inl trow))] sz)) 0 0 (va_A [(mo, .inr (8, [.int rf, .ref sc, .int ss, .int sp, .int ig, .int lf, .ref rd, .ref nw, .ref tr, .ref di, .int ac, .ref kp, .ref ik])), (nw, .inl (tc 0, 357, .inl row)), (tr, .inl (tc 0, 357, .inl trow))] sz) := by
  refine fc_ofWi (own := RX8) (cc := cX8_runScript) (maxL := 6) (W1 := (fun (u : Int32 × (Nat → Int32)) => [(mo, .inr (8, [.int (u.1), .ref sc, .int ss, .int sp, .int ig, .int lf, .ref rd, .ref nw, .ref tr, .ref di, .int ac, .ref kp, .ref ik])), (nw, .inl (tc 0, 357, .inl row)), (tr, .inl (tc 0, 357, .inl (u.2)))])) rfl (by decide) rfl (Nat.le_of_ble_eq_true rfl) ?_
  intro p e s m args below meth c A Q hx hb hml hown hts hK hE hP hD hS hA hin hret ls hl
  have hl : lv_has ls 6 [(0, .ref mo), (1, .int p0), (2, .long p1)] := hl
  refine lv_iload_n hx hb dX8_runScript_0 rfl (lv_at hl 1 rfl) ?_
  refine lv_i2l hx hb dX8_runScript_1 rfl ?_
  refine lv_lconst (v := 1) hx hb dX8_runScript_2 (by decide) ?_
  refine lv_ldc2 (v := 2) hx hb hown (hts (.constantLong RX8 166 2) (by decide +kernel)) dX8_runScript_3 ?_
  refine fc_goi (isC := []) (isR := [0, 1, 2]) (wc := []) (wr := [(mo, .inr (8, [.int rf, .ref sc, .int ss, .int sp, .int ig, .int lf, .ref rd, .ref nw, .ref tr, .ref di, .int ac, .ref kp, .ref ik])), (nw, .inl (tc 0, 357, .inl row)), (tr, .inl (tc 0, 357, .inl trow))]) hP hD hS hA rfl rfl (by decide) (by decide) (fc_runS (isC := []) (As := [.long p0.toInt64, .long 1, .long 2]) (rest := []) hx hb hml hown hts hK hE hP hD hS hA rfl (by decide) (c_X8_in l D tc p0.toInt64 1 2 _ ) (cwS 3 hts gX8_runScript_X8_in rfl rfl rfl hd_X8_in ⟨Nat.le_of_ble_eq_true rfl, Nat.le_of_ble_eq_true rfl⟩) rfl hl.1 rfl (Nat.le_of_ble_eq_true rfl) dX8_runScript_6 ⟨Nat.le_of_ble_eq_true rfl, Nat.le_of_ble_eq_true rfl⟩) (fun r_1 u_1 H locs hw_1 hP hD hS => ?_)
  try dsimp only at hw_1
  have hP : va_P D vwCl [(mo, .inr (8, [.int rf, .ref sc, .int ss, .int sp, .int ig, .int lf, .ref rd, .ref nw, .ref tr, .ref di, .int ac, .ref kp, .ref ik])), (nw, .inl (tc 0, 357, .inl row)), (tr, .inl (tc 0, 357, .inl trow))] H := hP
  have hD : va_D A [(mo, .inr (8, [.int rf, .ref sc, .int ss, .int sp, .int ig, .int lf, .ref rd, .ref nw, .ref tr, .ref di, .int ac, .ref kp, .ref ik])), (nw, .inl (tc 0, 357, .inl row)), (tr, .inl (tc 0, 357, .inl trow))] := hD
  have hi_1 := fx_in3 hw_1 (A := p0.toInt) (B := 1) (C := 2) (Int32.toInt_toInt64 _) (by decide) (by decide)
  refine lv_istore (lv' := [(4, .int r_1), (0, .ref mo), (1, .int p0), (2, .long p1)]) hx hb dX8_runScript_9 hl (by decide) rfl (fun ls hl => ?_)
  refine lv_aload_n hx hb dX8_runScript_11 rfl (lv_at hl 1 rfl) ?_
  refine lv_iload hx hb dX8_runScript_12 (lv_at hl 0 rfl) ?_
  refine lv_if_eq (tgt := 47) hx hb dX8_runScript_14 (by decide) (fun c_2 => ?_) (fun c_2 => ?_)
  · refine lv_iconst (v := 1) hx hb dX8_runScript_47 (by decide) ?_
    refine fc_goi (isC := [0]) (isR := [1, 2]) (wc := [(mo, .inr (8, [.int rf, .ref sc, .int ss, .int sp, .int ig, .int lf, .ref rd, .ref nw, .ref tr, .ref di, .int ac, .ref kp, .ref ik]))]) (wr := [(nw, .inl (tc 0, 357, .inl row)), (tr, .inl (tc 0, 357, .inl trow))]) hP hD hS hA rfl rfl (by decide) (by decide) (fc_runV (isC := [0]) (As := [.int 1]) (rest := []) hx hb hml hown hts hK hE hP hD hS hA rfl (by decide) (c_X8_refused l D tc mo sc rd nw tr di kp ik rf ss sp ig lf ac 1 _ ) (cwV 1 hts gX8_runScript_X8_refused rfl rfl rfl hd_X8_refused ⟨Nat.le_of_ble_eq_true rfl, Nat.le_of_ble_eq_true rfl⟩) (ci := 8) rfl rfl rfl rfl hl.1 rfl (Nat.le_of_ble_eq_true rfl) dX8_runScript_48 ⟨Nat.le_of_ble_eq_true rfl, Nat.le_of_ble_eq_true rfl⟩) (fun r_3 u_3 H locs hw_3 hP hD hS => ?_)
    obtain ⟨rf_3, rfl⟩ : ∃ z, z = u_3 := ⟨_, rfl⟩
    obtain ⟨z1_3, z2_3⟩ := fx_ref1 hw_3
    subst z1_3
    subst z2_3
    have hP : va_P D vwCl [(nw, .inl (tc 0, 357, .inl row)), (tr, .inl (tc 0, 357, .inl trow)), (mo, .inr (8, [.int 1, .ref sc, .int ss, .int sp, .int ig, .int lf, .ref rd, .ref nw, .ref tr, .ref di, .int ac, .ref kp, .ref ik]))] H := hP
    have hD : va_D A [(nw, .inl (tc 0, 357, .inl row)), (tr, .inl (tc 0, 357, .inl trow)), (mo, .inr (8, [.int 1, .ref sc, .int ss, .int sp, .int ig, .int lf, .ref rd, .ref nw, .ref tr, .ref di, .int ac, .ref kp, .ref ik]))] := hD
    refine lv_if_eq (tgt := 56) hx hb dX8_runScript_51 (by decide) (fun c_4 => ?_) (fun c_4 => ?_)
    · exact absurd c_4 (by decide)
    · refine lv_iconst (v := 0) hx hb dX8_runScript_54 (by decide) ?_
      exact hret _ _ (0) (1, trow) _ _ (by rw [mX8_runScript]; rw [hw_1]; (try dsimp only); rw [if_pos c_2]; (first | done | rfl)) (hP.sub [2, 0, 1] rfl) (hD.sub [2, 0, 1] (by decide) rfl) hS dX8_runScript_55
  · have hj_1 := hi_1.resolve_left c_2
    refine lv_lload_n hx hb dX8_runScript_17 rfl (lv_at hl 3 rfl) ?_
    refine lv_lconst (v := 0) hx hb dX8_runScript_18 (by decide) ?_
    refine lv_iload hx hb dX8_runScript_19 (lv_at hl 0 rfl) ?_
    refine lv_if_eq (tgt := 31) hx hb dX8_runScript_21 (by decide) (fun c_5 => ?_) (fun c_5 => ?_)
    · exact absurd c_5 c_2
    · refine lv_bipush (v := 7) hx hb dX8_runScript_24 (by decide) ?_
      refine lv_iload_n hx hb dX8_runScript_26 rfl (lv_at hl 2 rfl) ?_
      refine lv_imul hx hb dX8_runScript_27 ?_
      refine lv_goto (tgt := 32) hx hb dX8_runScript_28 (by decide) ?_
      refine fc_gol (isC := []) (isR := [0, 1, 2]) (wc := []) (wr := [(mo, .inr (8, [.int rf, .ref sc, .int ss, .int sp, .int ig, .int lf, .ref rd, .ref nw, .ref tr, .ref di, .int ac, .ref kp, .ref ik])), (nw, .inl (tc 0, 357, .inl row)), (tr, .inl (tc 0, 357, .inl trow))]) hP hD hS hA rfl rfl (by decide) (by decide) (fc_runS (isC := []) (As := [.int (7 * p0)]) (rest := [.long 0, .long p1, .ref mo]) hx hb hml hown hts hK hE hP hD hS hA rfl (by decide) (c_X8_tenTo l D tc (7 * p0) _ (fx_ten20 (by omega))) (cwS 1 hts gX8_runScript_X8_tenTo rfl rfl rfl hd_X8_tenTo ⟨Nat.le_of_ble_eq_true rfl, Nat.le_of_ble_eq_true rfl⟩) rfl hl.1 rfl (Nat.le_of_ble_eq_true rfl) dX8_runScript_32 ⟨Nat.le_of_ble_eq_true rfl, Nat.le_of_ble_eq_true rfl⟩) (fun r_6 u_6 H locs hw_6 hP hD hS => ?_)
      try dsimp only at hw_6
      have hP : va_P D vwCl [(mo, .inr (8, [.int rf, .ref sc, .int ss, .int sp, .int ig, .int lf, .ref rd, .ref nw, .ref tr, .ref di, .int ac, .ref kp, .ref ik])), (nw, .inl (tc 0, 357, .inl row)), (tr, .inl (tc 0, 357, .inl trow))] H := hP
      have hD : va_D A [(mo, .inr (8, [.int rf, .ref sc, .int ss, .int sp, .int ig, .int lf, .ref rd, .ref nw, .ref tr, .ref di, .int ac, .ref kp, .ref ik])), (nw, .inl (tc 0, 357, .inl row)), (tr, .inl (tc 0, 357, .inl trow))] := hD
      refine lv_lconst (v := 1) hx hb dX8_runScript_35 (by decide) ?_
      refine lv_lsub hx hb dX8_runScript_36 ?_
      refine fc_goi (isC := []) (isR := [0, 1, 2]) (wc := []) (wr := [(mo, .inr (8, [.int rf, .ref sc, .int ss, .int sp, .int ig, .int lf, .ref rd, .ref nw, .ref tr, .ref di, .int ac, .ref kp, .ref ik])), (nw, .inl (tc 0, 357, .inl row)), (tr, .inl (tc 0, 357, .inl trow))]) hP hD hS hA rfl rfl (by decide) (by decide) (fc_runS (isC := []) (As := [.long p1, .long 0, .long (r_6 - 1)]) (rest := [.ref mo]) hx hb hml hown hts hK hE hP hD hS hA rfl (by decide) (c_X8_in l D tc p1 0 (r_6 - 1) _ ) (cwS 3 hts gX8_runScript_X8_in rfl rfl rfl hd_X8_in ⟨Nat.le_of_ble_eq_true rfl, Nat.le_of_ble_eq_true rfl⟩) rfl hl.1 rfl (Nat.le_of_ble_eq_true rfl) dX8_runScript_37 ⟨Nat.le_of_ble_eq_true rfl, Nat.le_of_ble_eq_true rfl⟩) (fun r_7 u_7 H locs hw_7 hP hD hS => ?_)
      try dsimp only at hw_7
      have hP : va_P D vwCl [(mo, .inr (8, [.int rf, .ref sc, .int ss, .int sp, .int ig, .int lf, .ref rd, .ref nw, .ref tr, .ref di, .int ac, .ref kp, .ref ik])), (nw, .inl (tc 0, 357, .inl row)), (tr, .inl (tc 0, 357, .inl trow))] H := hP
      have hD : va_D A [(mo, .inr (8, [.int rf, .ref sc, .int ss, .int sp, .int ig, .int lf, .ref rd, .ref nw, .ref tr, .ref di, .int ac, .ref kp, .ref ik])), (nw, .inl (tc 0, 357, .inl row)), (tr, .inl (tc 0, 357, .inl trow))] := hD
      have hi_7 := fx_in3 hw_7 (A := p1.toInt) (B := 0) (C := (r_6 - 1).toInt) rfl (by decide) rfl
      refine lv_if_eq (tgt := 47) hx hb dX8_runScript_40 (by decide) (fun c_8 => ?_) (fun c_8 => ?_)
      · refine lv_iconst (v := 1) hx hb dX8_runScript_47 (by decide) ?_
        refine fc_goi (isC := [0]) (isR := [1, 2]) (wc := [(mo, .inr (8, [.int rf, .ref sc, .int ss, .int sp, .int ig, .int lf, .ref rd, .ref nw, .ref tr, .ref di, .int ac, .ref kp, .ref ik]))]) (wr := [(nw, .inl (tc 0, 357, .inl row)), (tr, .inl (tc 0, 357, .inl trow))]) hP hD hS hA rfl rfl (by decide) (by decide) (fc_runV (isC := [0]) (As := [.int 1]) (rest := []) hx hb hml hown hts hK hE hP hD hS hA rfl (by decide) (c_X8_refused l D tc mo sc rd nw tr di kp ik rf ss sp ig lf ac 1 _ ) (cwV 1 hts gX8_runScript_X8_refused rfl rfl rfl hd_X8_refused ⟨Nat.le_of_ble_eq_true rfl, Nat.le_of_ble_eq_true rfl⟩) (ci := 8) rfl rfl rfl rfl hl.1 rfl (Nat.le_of_ble_eq_true rfl) dX8_runScript_48 ⟨Nat.le_of_ble_eq_true rfl, Nat.le_of_ble_eq_true rfl⟩) (fun r_9 u_9 H locs hw_9 hP hD hS => ?_)
        obtain ⟨rf_9, rfl⟩ : ∃ z, z = u_9 := ⟨_, rfl⟩
        obtain ⟨z1_9, z2_9⟩ := fx_ref1 hw_9
        subst z1_9
        subst z2_9
        have hP : va_P D vwCl [(nw, .inl (tc 0, 357, .inl row)), (tr, .inl (tc 0, 357, .inl trow)), (mo, .inr (8, [.int 1, .ref sc, .int ss, .int sp, .int ig, .int lf, .ref rd, .ref nw, .ref tr, .ref di, .int ac, .ref kp, .ref ik]))] H := hP
        have hD : va_D A [(nw, .inl (tc 0, 357, .inl row)), (tr, .inl (tc 0, 357, .inl trow)), (mo, .inr (8, [.int 1, .ref sc, .int ss, .int sp, .int ig, .int lf, .ref rd, .ref nw, .ref tr, .ref di, .int ac, .ref kp, .ref ik]))] := hD
        refine lv_if_eq (tgt := 56) hx hb dX8_runScript_51 (by decide) (fun c_10 => ?_) (fun c_10 => ?_)
        · exact absurd c_10 (by decide)
        · refine lv_iconst (v := 0) hx hb dX8_runScript_54 (by decide) ?_
          exact hret _ _ (0) (1, trow) _ _ (by rw [mX8_runScript]; rw [hw_1]; (try dsimp only); rw [if_neg c_2]; rw [hw_6]; (try dsimp only); rw [hw_7]; (try dsimp only); rw [if_pos c_8]; (first | done | rfl)) (hP.sub [2, 0, 1] rfl) (hD.sub [2, 0, 1] (by decide) rfl) hS dX8_runScript_55
      · have hj_7 := hi_7.resolve_left c_8
        refine lv_iconst (v := 0) hx hb dX8_runScript_43 (by decide) ?_
        refine lv_goto (tgt := 48) hx hb dX8_runScript_44 (by decide) ?_
        refine fc_goi (isC := [0]) (isR := [1, 2]) (wc := [(mo, .inr (8, [.int rf, .ref sc, .int ss, .int sp, .int ig, .int lf, .ref rd, .ref nw, .ref tr, .ref di, .int ac, .ref kp, .ref ik]))]) (wr := [(nw, .inl (tc 0, 357, .inl row)), (tr, .inl (tc 0, 357, .inl trow))]) hP hD hS hA rfl rfl (by decide) (by decide) (fc_runV (isC := [0]) (As := [.int 0]) (rest := []) hx hb hml hown hts hK hE hP hD hS hA rfl (by decide) (c_X8_refused l D tc mo sc rd nw tr di kp ik rf ss sp ig lf ac 0 _ ) (cwV 1 hts gX8_runScript_X8_refused rfl rfl rfl hd_X8_refused ⟨Nat.le_of_ble_eq_true rfl, Nat.le_of_ble_eq_true rfl⟩) (ci := 8) rfl rfl rfl rfl hl.1 rfl (Nat.le_of_ble_eq_true rfl) dX8_runScript_48 ⟨Nat.le_of_ble_eq_true rfl, Nat.le_of_ble_eq_true rfl⟩) (fun r_11 u_11 H locs hw_11 hP hD hS => ?_)
        obtain ⟨rf_11, rfl⟩ : ∃ z, z = u_11 := ⟨_, rfl⟩
        obtain ⟨z1_11, z2_11⟩ := fx_ref0 hw_11
        subst z1_11
        subst z2_11
        have hP : va_P D vwCl [(nw, .inl (tc 0, 357, .inl row)), (tr, .inl (tc 0, 357, .inl trow)), (mo, .inr (8, [.int 0, .ref sc, .int ss, .int sp, .int ig, .int lf, .ref rd, .ref nw, .ref tr, .ref di, .int ac, .ref kp, .ref ik]))] H := hP
        have hD : va_D A [(nw, .inl (tc 0, 357, .inl row)), (tr, .inl (tc 0, 357, .inl trow)), (mo, .inr (8, [.int 0, .ref sc, .int ss, .int sp, .int ig, .int lf, .ref rd, .ref nw, .ref tr, .ref di, .int ac, .ref kp, .ref ik]))] := hD
        refine lv_if_eq (tgt := 56) hx hb dX8_runScript_51 (by decide) (fun c_12 => ?_) (fun c_12 => ?_)
        · refine lv_aload_n hx hb dX8_runScript_56 rfl (lv_at hl 1 rfl) ?_
          refine fc_gov (isC := [2, 0, 1]) (isR := []) (wc := [(mo, .inr (8, [.int 0, .ref sc, .int ss, .int sp, .int ig, .int lf, .ref rd, .ref nw, .ref tr, .ref di, .int ac, .ref kp, .ref ik])), (nw, .inl (tc 0, 357, .inl row)), (tr, .inl (tc 0, 357, .inl trow))]) (wr := []) hP hD hS hA rfl rfl (by decide) (by decide) (fc_runV (isC := [2, 0, 1]) (As := []) (rest := []) hx hb hml hown hts hK hE hP hD hS hA rfl (by decide) (c_X8_tryIt l D tc mo sc rd nw tr di kp ik 0 ss sp ig lf ac row trow _ ) (cwV 0 hts gX8_runScript_X8_tryIt rfl rfl rfl hd_X8_tryIt ⟨Nat.le_of_ble_eq_true rfl, Nat.le_of_ble_eq_true rfl⟩) (ci := 8) rfl rfl rfl rfl hl.1 rfl (Nat.le_of_ble_eq_true rfl) dX8_runScript_57 ⟨Nat.le_of_ble_eq_true rfl, Nat.le_of_ble_eq_true rfl⟩) (fun u_13 H locs hw_13 hP hD hS => ?_)
          obtain ⟨trow_13, rfl⟩ : ∃ z, z = u_13 := ⟨_, rfl⟩
          try dsimp only at hw_13
          have hP : va_P D vwCl [(mo, .inr (8, [.int 0, .ref sc, .int ss, .int sp, .int ig, .int lf, .ref rd, .ref nw, .ref tr, .ref di, .int ac, .ref kp, .ref ik])), (nw, .inl (tc 0, 357, .inl row)), (tr, .inl (tc 0, 357, .inl trow_13))] H := hP
          have hD : va_D A [(mo, .inr (8, [.int 0, .ref sc, .int ss, .int sp, .int ig, .int lf, .ref rd, .ref nw, .ref tr, .ref di, .int ac, .ref kp, .ref ik])), (nw, .inl (tc 0, 357, .inl row)), (tr, .inl (tc 0, 357, .inl trow_13))] := hD
          have hx1 := (RX_tryIt hw_13 hR)
          refine lv_iconst (v := 0) hx hb dX8_runScript_60 (by decide) ?_
          refine lv_istore (lv' := [(5, .int 0), (4, .int r_1), (0, .ref mo), (1, .int p0), (2, .long p1)]) hx hb dX8_runScript_61 hl (by decide) rfl (fun ls hl => ?_)
          have loop_63 : ∀ (k_63 : Nat) (i_63 : Nat) (x5h63 : Int32) (trowh63 : Nat → Int32) (hb_63 : x5h63 = nI i_63) (hm_63 : i_63 ≤ 2 ∧ 2 < i_63 + k_63) (hx_63 : RXn (61 * k_63) trowh63) (hI_63 : mX8_runScript rf ss sp ig lf ac row trow p0 p1 = mX8_runScript_L63 ss sp ig lf ac row p0 p1 r_1 k_63 x5h63 trowh63) (H : Heap) (locs : List Loc), va_P D vwCl [(mo, .inr (8, [.int 0, .ref sc, .int ss, .int sp, .int ig, .int lf, .ref rd, .ref nw, .ref tr, .ref di, .int ac, .ref kp, .ref ik])), (nw, .inl (tc 0, 357, .inl row)), (tr, .inl (tc 0, 357, .inl trowh63))] H → va_D A [(mo, .inr (8, [.int 0, .ref sc, .int ss, .int sp, .int ig, .int lf, .ref rd, .ref nw, .ref tr, .ref di, .int ac, .ref kp, .ref ik])), (nw, .inl (tc 0, 357, .inl row)), (tr, .inl (tc 0, 357, .inl trowh63))] → va_S A s.heap H locs → ∀ ls : Array Slot, lv_has ls 6 [(5, .int x5h63), (4, .int r_1), (0, .ref mo), (1, .int p0), (2, .long p1)] → W p l e rmX8_runScript s m args below meth c H locs 0 0 Q (F0 m 63 ls []) := by
            intro k_63
            induction k_63 with
            | zero =>
              intro i_63 x5h63 trowh63 hb_63 hm_63 hx_63 hI_63 H locs hP hD hS ls hl
              exact absurd hm_63 (by omega)
            | succ k_63 ih_63 =>
              intro i_63 x5h63 trowh63 hb_63 hm_63 hx_63 hI_63 H locs hP hD hS ls hl
              have zz_63 := fc_nI (n := i_63) (by omega)
              rw [← hb_63] at zz_63
              refine lv_iload hx hb dX8_runScript_63 (lv_at hl 0 rfl) ?_
              refine lv_iload_n hx hb dX8_runScript_65 rfl (lv_at hl 3 rfl) ?_
              refine lv_icmp_ge (tgt := 104) hx hb dX8_runScript_66 (by decide) (fun c_14 => ?_) (fun c_14 => ?_)
              · refine lv_iconst (v := (-1)) hx hb dX8_runScript_104 (by decide) ?_
                exact hret _ _ (-1) (0, trowh63) _ _ (by rw [hI_63, mX8_runScript_L63_s, mX8_runScript_S63]; rw [if_pos c_14]; (first | done | rfl)) (hP.sub [0, 1, 2] rfl) (hD.sub [0, 1, 2] (by decide) rfl) hS dX8_runScript_105
              · refine lv_aload_n hx hb dX8_runScript_69 rfl (lv_at hl 2 rfl) ?_
                refine lv_lload_n hx hb dX8_runScript_70 rfl (lv_at hl 4 rfl) ?_
                refine lv_bipush (v := 7) hx hb dX8_runScript_71 (by decide) ?_
                refine lv_iload_n hx hb dX8_runScript_73 rfl (lv_at hl 3 rfl) ?_
                refine lv_iconst (v := 1) hx hb dX8_runScript_74 (by decide) ?_
                refine lv_isub hx hb dX8_runScript_75 ?_
                refine lv_iload hx hb dX8_runScript_76 (lv_at hl 0 rfl) ?_
                refine lv_isub hx hb dX8_runScript_78 ?_
                refine lv_imul hx hb dX8_runScript_79 ?_
                have hxl := fx_nle (by assumption : ¬ p0 ≤ x5h63)
                refine fc_gol (isC := []) (isR := [0, 1, 2]) (wc := []) (wr := [(mo, .inr (8, [.int 0, .ref sc, .int ss, .int sp, .int ig, .int lf, .ref rd, .ref nw, .ref tr, .ref di, .int ac, .ref kp, .ref ik])), (nw, .inl (tc 0, 357, .inl row)), (tr, .inl (tc 0, 357, .inl trowh63))]) hP hD hS hA rfl rfl (by decide) (by decide) (fc_runS (isC := []) (As := [.int (7 * ((p0 - 1) - x5h63))]) (rest := [.long p1, .ref mo]) hx hb hml hown hts hK hE hP hD hS hA rfl (by decide) (c_X8_tenTo l D tc (7 * ((p0 - 1) - x5h63)) _ (fx_ten20b (by omega) (by omega))) (cwS 1 hts gX8_runScript_X8_tenTo rfl rfl rfl hd_X8_tenTo ⟨Nat.le_of_ble_eq_true rfl, Nat.le_of_ble_eq_true rfl⟩) rfl hl.1 rfl (Nat.le_of_ble_eq_true rfl) dX8_runScript_80 ⟨Nat.le_of_ble_eq_true rfl, Nat.le_of_ble_eq_true rfl⟩) (fun r_15 u_15 H locs hw_15 hP hD hS => ?_)
                try dsimp only at hw_15
                have hP : va_P D vwCl [(mo, .inr (8, [.int 0, .ref sc, .int ss, .int sp, .int ig, .int lf, .ref rd, .ref nw, .ref tr, .ref di, .int ac, .ref kp, .ref ik])), (nw, .inl (tc 0, 357, .inl row)), (tr, .inl (tc 0, 357, .inl trowh63))] H := hP
                have hD : va_D A [(mo, .inr (8, [.int 0, .ref sc, .int ss, .int sp, .int ig, .int lf, .ref rd, .ref nw, .ref tr, .ref di, .int ac, .ref kp, .ref ik])), (nw, .inl (tc 0, 357, .inl row)), (tr, .inl (tc 0, 357, .inl trowh63))] := hD
                have hT := (fx_tenTo hw_15 (by omega) (by omega))
                refine lv_ldiv hx hb dX8_runScript_83 (fx_tenNe hT) ?_
                refine lv_ldc2 (v := 10000000) hx hb hown (hts (.constantLong RX8 217 10000000) (by decide +kernel)) dX8_runScript_84 ?_
                refine lv_lrem hx hb dX8_runScript_87 (by decide) ?_
                refine lv_l2i hx hb dX8_runScript_88 rfl ?_
                have hGG := fx_group hT (p1 := p1) (by omega)
                refine fc_goi (isC := [0, 2]) (isR := [1]) (wc := [(mo, .inr (8, [.int 0, .ref sc, .int ss, .int sp, .int ig, .int lf, .ref rd, .ref nw, .ref tr, .ref di, .int ac, .ref kp, .ref ik])), (tr, .inl (tc 0, 357, .inl trowh63))]) (wr := [(nw, .inl (tc 0, 357, .inl row))]) hP hD hS hA rfl rfl (by decide) (by decide) (fc_runV (isC := [0, 2]) (As := [.int (((p1 / r_15) - (p1 / r_15) / 10000000 * 10000000) : Int64).toInt32]) (rest := []) hx hb hml hown hts hK hE hP hD hS hA rfl (by decide) (c_X8_does l D tc mo sc rd nw tr di kp ik 0 ss sp ig lf ac trowh63 ((((p1 / r_15) - (p1 / r_15) / 10000000 * 10000000) : Int64).toInt32) _ (hx_63.mono (by omega)) hGG) (cwV 1 hts gX8_runScript_X8_does rfl rfl rfl hd_X8_does ⟨Nat.le_of_ble_eq_true rfl, Nat.le_of_ble_eq_true rfl⟩) (ci := 8) rfl rfl rfl rfl hl.1 rfl (Nat.le_of_ble_eq_true rfl) dX8_runScript_89 ⟨Nat.le_of_ble_eq_true rfl, Nat.le_of_ble_eq_true rfl⟩) (fun r_16 u_16 H locs hw_16 hP hD hS => ?_)
                obtain ⟨trow_16, rfl⟩ : ∃ z, z = u_16 := ⟨_, rfl⟩
                try dsimp only at hw_16
                have hP : va_P D vwCl [(nw, .inl (tc 0, 357, .inl row)), (mo, .inr (8, [.int 0, .ref sc, .int ss, .int sp, .int ig, .int lf, .ref rd, .ref nw, .ref tr, .ref di, .int ac, .ref kp, .ref ik])), (tr, .inl (tc 0, 357, .inl trow_16))] H := hP
                have hD : va_D A [(nw, .inl (tc 0, 357, .inl row)), (mo, .inr (8, [.int 0, .ref sc, .int ss, .int sp, .int ig, .int lf, .ref rd, .ref nw, .ref tr, .ref di, .int ac, .ref kp, .ref ik])), (tr, .inl (tc 0, 357, .inl trow_16))] := hD
                have HD := hw_16
                refine lv_if_ne (tgt := 98) hx hb dX8_runScript_92 (by decide) (fun c_17 => ?_) (fun c_17 => ?_)
                · refine lv_iinc (v := (x5h63 + 1)) (lv' := [(5, .int (x5h63 + 1)), (4, .int r_1), (0, .ref mo), (1, .int p0), (2, .long p1)]) hx hb dX8_runScript_98 hl (k := 0) rfl rfl (by decide) rfl (fun ls hl => ?_)
                  refine lv_goto (tgt := 63) hx hb dX8_runScript_101 (by decide) ?_
                  exact ih_63 (i_63 + 1) (x5h63 + 1) trow_16 (by rw [hb_63]; exact nI_1 _) (by have l_0 : (0 : Int32).toInt = 0 := (by decide); have l_1 : (1 : Int32).toInt = 1 := (by decide); have l_2 : (2 : Int32).toInt = 2 := (by decide); have l_3 : (3 : Int32).toInt = 3 := (by decide); have l_4 : (4 : Int32).toInt = 4 := (by decide); have qc_14 := c_14; (try simp only [fc_le, fc_lt, fc_eq] at qc_14); have qc_17 := c_17; (try simp only [fc_le, fc_lt, fc_eq] at qc_17); skip; omega) (RX_does (m := 61 * k_63) (hx_63.mono (by omega)) hGG HD) (by rw [hI_63, mX8_runScript_L63_s, mX8_runScript_S63]; rw [if_neg c_14]; rw [hw_15]; (try dsimp only); rw [hw_16]; rw [mX8_runScript_C16]; (try dsimp only); rw [if_neg c_17]; (first | done | rfl)) _ _ (hP.sub [1, 0, 2] rfl) (hD.sub [1, 0, 2] (by decide) rfl) hS ls (lv_sub hl [0, 1, 2, 3, 4] rfl)
                · refine lv_iload hx hb dX8_runScript_95 (lv_at hl 0 rfl) ?_
                  exact hret _ _ (x5h63) (0, trow_16) _ _ (by rw [hI_63, mX8_runScript_L63_s, mX8_runScript_S63]; rw [if_neg c_14]; rw [hw_15]; (try dsimp only); rw [hw_16]; rw [mX8_runScript_C16]; (try dsimp only); rw [if_pos c_17]; (first | done | rfl)) (hP.sub [1, 0, 2] rfl) (hD.sub [1, 0, 2] (by decide) rfl) hS dX8_runScript_97
          exact loop_63 3 0 0 trow_13 rfl (by omega) (hx1.mono (by omega)) (by rw [mX8_runScript]; rw [hw_1]; (try dsimp only); rw [if_neg c_2]; rw [hw_6]; (try dsimp only); rw [hw_7]; (try dsimp only); rw [if_neg c_8]; rw [hw_13]; (try dsimp only); (first | done | rfl)) _ _ (hP.sub [0, 1, 2] rfl) (hD.sub [0, 1, 2] (by decide) rfl) hS ls (lv_sub hl [0, 1, 2, 3, 4] rfl)
        · exact absurd (by decide) c_12
