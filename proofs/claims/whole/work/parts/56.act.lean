/-! The reference: actions -/
--# X8_shoot
theorem hd_X8_isPicture : yX8_isPicture.cls = RX8 ∧ yX8_isPicture.cls ≠ "java/lang/invoke/MethodHandle" ∧ yX8_isPicture.cls ≠ "java/lang/invoke/VarHandle" ∧ (parseMethodDescriptor yX8_isPicture.desc).map (fun d => d.parameters.length) = some 1 := by decide +kernel
theorem hd_X8_isPicturen : yX8_isPicture.cls ≠ "java/lang/invoke/MethodHandle" ∧ yX8_isPicture.cls ≠ "java/lang/invoke/VarHandle" ∧ (parseMethodDescriptor yX8_isPicture.desc).map (fun d => d.parameters.length) = some 1 := by decide +kernel
theorem hd_X8_remember : yX8_remember.cls = RX8 ∧ yX8_remember.cls ≠ "java/lang/invoke/MethodHandle" ∧ yX8_remember.cls ≠ "java/lang/invoke/VarHandle" ∧ (parseMethodDescriptor yX8_remember.desc).map (fun d => d.parameters.length) = some 0 := by decide +kernel
theorem hd_X8_remembern : yX8_remember.cls ≠ "java/lang/invoke/MethodHandle" ∧ yX8_remember.cls ≠ "java/lang/invoke/VarHandle" ∧ (parseMethodDescriptor yX8_remember.desc).map (fun d => d.parameters.length) = some 0 := by decide +kernel
theorem hd_X8_shootIn : yX8_shootIn.cls = RX8 ∧ yX8_shootIn.cls ≠ "java/lang/invoke/MethodHandle" ∧ yX8_shootIn.cls ≠ "java/lang/invoke/VarHandle" ∧ (parseMethodDescriptor yX8_shootIn.desc).map (fun d => d.parameters.length) = some 2 := by decide +kernel
theorem hd_X8_shootInn : yX8_shootIn.cls ≠ "java/lang/invoke/MethodHandle" ∧ yX8_shootIn.cls ≠ "java/lang/invoke/VarHandle" ∧ (parseMethodDescriptor yX8_shootIn.desc).map (fun d => d.parameters.length) = some 2 := by decide +kernel
noncomputable def mX8_shoot (rf : Int32) (ss : Int32) (sp : Int32) (ig : Int32) (lf : Int32) (ac : Int32) (row : Nat → Int32) (dia : Nat → Int32) (p0 : Int32) : Int32 × Int32 × Int32 × (Nat → Int32) × (Nat → Int32) :=
  let r_1 := mX8_isPicture p0
  if r_1 = 0 then
    (0, 1, ac, row, dia)
  else
    match mX8_remember 0 ss sp ig lf ac row dia with
    | (ac_7, dia_7) =>
      match mX8_shootIn row p0 with
      | (r_8, row_8) =>
        (r_8, 0, ac_7, row_8, dia_7)
set_option maxRecDepth 20000 in
theorem iX8_shoot_X8 : ∀ w ∈ wsX80, w ∈ wsX8_shoot := by decide +kernel
abbrev rmX8_shoot : Room := { frames := 2, cells := 0, slots := 0, locals := 50 }
set_option maxHeartbeats 4000000 in
set_option maxRecDepth 100000 in
theorem c_X8_shoot (l : Launch) (D : va_G) (tc : Nat → ClassId) (mo : Nat) (sc : Nat) (rd : Nat) (nw : Nat) (tr : Nat) (di : Nat) (kp : Nat) (ik : Nat) (rf : Int32) (ss : Int32) (sp : Int32) (ig : Int32) (lf : Int32) (ac : Int32) (row : Nat → Int32) (dia : Nat → Int32) (p0 : Int32) (sz : Nat) (hR : RXn 51 row) (hac : 0 ≤ ac.toInt ∧ ac.toInt ≤ 14) : Met l yX8_shoot wsX8_shoot rmX8_shoot (va_Pc [.ref mo, .int p0] (fcB D tc [(mo, .inr (8, [.int rf, .ref sc, .int ss, .int sp, .int ig, .int lf, .ref rd, .ref nw, .ref tr, .ref di, .int ac, .ref kp, .ref ik])), (nw, .inl (tc 0, 357, .inl row)), (di, .inl (tc 0, 4998, .inl dia))] sz)) (va_Qi (fun (r : Int32) (u : Int32 × Int32 × (Nat → Int32) × (Nat → Int32)) => mX8_shoot rf ss sp ig lf ac row dia p0 = (r, u)) (fun u t => fcO D (va_A [(mo, .inr (8, [.int rf, .ref sc, .int ss, .int sp, .int ig, .int lf, .ref rd, .ref nw, .ref tr, .ref di, .int ac, .ref kp, .ref ik])), (nw, .inl (tc 0, 357, .inl row)), (di, .inl (tc 0, 4998, .inl dia))] sz) ((fun (u : Int32 × Int32 × (Nat → Int32) × (Nat → Int32)) => [(mo, .inr (8, [.int (u.1), .ref sc, .int ss, .int sp, .int ig, .int lf, .ref rd, .ref nw, .ref tr, .ref di, .int (u.2.1), .ref kp, .ref ik])), (nw, .inl (tc 0, 357, .inl (u.2.2.1))), (di, .inl (tc 0, 4998, .inl (u.2.2.2)))]) u) t) (va_A [(mo, .inr (8, [.int rf, .ref sc, .int ss, .int sp, .int ig, .int lf, .ref rd, .ref nw, .ref tr, .ref di, .int ac, .ref kp, .ref ik])), (nw, .inl (tc 0, 357, .inl row)), (di, .inl (tc 0, 4998, .inl dia))] sz)) 0 0 (va_A [(mo, .inr (8, [.int rf, .ref sc, .int ss, .int sp, .int ig, .int lf, .ref rd, .ref nw, .ref tr, .ref di, .int ac, .ref kp, .ref ik])), (nw, .inl (tc 0, 357, .inl row)), (di, .inl (tc 0, 4998, .inl dia))] sz) := by
  refine fc_ofWi (own := RX8) (cc := cX8_shoot) (maxL := 2) (W1 := (fun (u : Int32 × Int32 × (Nat → Int32) × (Nat → Int32)) => [(mo, .inr (8, [.int (u.1), .ref sc, .int ss, .int sp, .int ig, .int lf, .ref rd, .ref nw, .ref tr, .ref di, .int (u.2.1), .ref kp, .ref ik])), (nw, .inl (tc 0, 357, .inl (u.2.2.1))), (di, .inl (tc 0, 4998, .inl (u.2.2.2)))])) rfl (by decide) rfl (Nat.le_of_ble_eq_true rfl) ?_
  intro p e s m args below meth c A Q hx hb hml hown hts hK hE hP hD hS hA hin hret ls hl
  have hl : lv_has ls 2 [(0, .ref mo), (1, .int p0)] := hl
  have k3 := (RX_K hR).1
  have k16 := (RX_K hR).2.1
  have k17 := (RX_K hR).2.2
  have k18 := RX_18 hR
  have b3 := fc_subk (x := row (3 : Int32).toNatClampNeg) (k := 1) (n := 1) (by decide) (by omega) (by omega)
  have b16 := fc_subk (x := row (16 : Int32).toNatClampNeg) (k := 1) (n := 1) (by decide) (by omega) (by omega)
  have b17 := fc_subk (x := row (17 : Int32).toNatClampNeg) (k := 1) (n := 1) (by decide) (by omega) (by omega)
  have b18 := fc_subk (x := row (18 : Int32).toNatClampNeg) (k := 1) (n := 1) (by decide) (by omega) (by omega)
  refine lv_aload_n hx hb dX8_shoot_0 rfl (lv_at hl 0 rfl) ?_
  refine lv_iload_n hx hb dX8_shoot_1 rfl (lv_at hl 1 rfl) ?_
  refine fc_goi (isC := []) (isR := [0, 1, 2]) (wc := []) (wr := [(mo, .inr (8, [.int rf, .ref sc, .int ss, .int sp, .int ig, .int lf, .ref rd, .ref nw, .ref tr, .ref di, .int ac, .ref kp, .ref ik])), (nw, .inl (tc 0, 357, .inl row)), (di, .inl (tc 0, 4998, .inl dia))]) hP hD hS hA rfl rfl (by decide) (by decide) (fc_runS (isC := []) (As := [.int p0]) (rest := [.ref mo]) hx hb hml hown hts hK hE hP hD hS hA rfl (by decide) (c_X8_isPicture l D tc p0 _ ) (cwS 1 hts gX8_shoot_X8_isPicture rfl rfl rfl hd_X8_isPicture ⟨Nat.le_of_ble_eq_true rfl, Nat.le_of_ble_eq_true rfl⟩) rfl hl.1 rfl (Nat.le_of_ble_eq_true rfl) dX8_shoot_2 ⟨Nat.le_of_ble_eq_true rfl, Nat.le_of_ble_eq_true rfl⟩) (fun r_1 u_1 H locs hw_1 hP hD hS => ?_)
  try dsimp only at hw_1
  have hP : va_P D vwCl [(mo, .inr (8, [.int rf, .ref sc, .int ss, .int sp, .int ig, .int lf, .ref rd, .ref nw, .ref tr, .ref di, .int ac, .ref kp, .ref ik])), (nw, .inl (tc 0, 357, .inl row)), (di, .inl (tc 0, 4998, .inl dia))] H := hP
  have hD : va_D A [(mo, .inr (8, [.int rf, .ref sc, .int ss, .int sp, .int ig, .int lf, .ref rd, .ref nw, .ref tr, .ref di, .int ac, .ref kp, .ref ik])), (nw, .inl (tc 0, 357, .inl row)), (di, .inl (tc 0, 4998, .inl dia))] := hD
  refine lv_if_eq (tgt := 12) hx hb dX8_shoot_5 (by decide) (fun c_2 => ?_) (fun c_2 => ?_)
  · refine lv_iconst (v := 1) hx hb dX8_shoot_12 (by decide) ?_
    refine fc_goi (isC := [0]) (isR := [1, 2]) (wc := [(mo, .inr (8, [.int rf, .ref sc, .int ss, .int sp, .int ig, .int lf, .ref rd, .ref nw, .ref tr, .ref di, .int ac, .ref kp, .ref ik]))]) (wr := [(nw, .inl (tc 0, 357, .inl row)), (di, .inl (tc 0, 4998, .inl dia))]) hP hD hS hA rfl rfl (by decide) (by decide) (fc_runV (isC := [0]) (As := [.int 1]) (rest := []) hx hb hml hown hts hK hE hP hD hS hA rfl (by decide) (c_X8_refused l D tc mo sc rd nw tr di kp ik rf ss sp ig lf ac 1 _ ) (cwV 1 hts gX8_shoot_X8_refused rfl rfl rfl hd_X8_refused ⟨Nat.le_of_ble_eq_true rfl, Nat.le_of_ble_eq_true rfl⟩) (ci := 8) rfl rfl rfl rfl hl.1 rfl (Nat.le_of_ble_eq_true rfl) dX8_shoot_13 ⟨Nat.le_of_ble_eq_true rfl, Nat.le_of_ble_eq_true rfl⟩) (fun r_3 u_3 H locs hw_3 hP hD hS => ?_)
    obtain ⟨rf_3, rfl⟩ : ∃ z, z = u_3 := ⟨_, rfl⟩
    obtain ⟨z1_3, z2_3⟩ := fx_ref1 hw_3
    subst z1_3
    subst z2_3
    have hP : va_P D vwCl [(nw, .inl (tc 0, 357, .inl row)), (di, .inl (tc 0, 4998, .inl dia)), (mo, .inr (8, [.int 1, .ref sc, .int ss, .int sp, .int ig, .int lf, .ref rd, .ref nw, .ref tr, .ref di, .int ac, .ref kp, .ref ik]))] H := hP
    have hD : va_D A [(nw, .inl (tc 0, 357, .inl row)), (di, .inl (tc 0, 4998, .inl dia)), (mo, .inr (8, [.int 1, .ref sc, .int ss, .int sp, .int ig, .int lf, .ref rd, .ref nw, .ref tr, .ref di, .int ac, .ref kp, .ref ik]))] := hD
    refine lv_if_eq (tgt := 21) hx hb dX8_shoot_16 (by decide) (fun c_4 => ?_) (fun c_4 => ?_)
    · exact absurd c_4 (by decide)
    · refine lv_iconst (v := 0) hx hb dX8_shoot_19 (by decide) ?_
      exact hret _ _ (0) (1, ac, row, dia) _ _ (by rw [mX8_shoot]; (try dsimp only); rw [hw_1]; (try dsimp only); rw [if_pos c_2]; (first | done | rfl)) (hP.sub [2, 0, 1] rfl) (hD.sub [2, 0, 1] (by decide) rfl) hS dX8_shoot_20
  · refine lv_iconst (v := 0) hx hb dX8_shoot_8 (by decide) ?_
    refine lv_goto (tgt := 13) hx hb dX8_shoot_9 (by decide) ?_
    refine fc_goi (isC := [0]) (isR := [1, 2]) (wc := [(mo, .inr (8, [.int rf, .ref sc, .int ss, .int sp, .int ig, .int lf, .ref rd, .ref nw, .ref tr, .ref di, .int ac, .ref kp, .ref ik]))]) (wr := [(nw, .inl (tc 0, 357, .inl row)), (di, .inl (tc 0, 4998, .inl dia))]) hP hD hS hA rfl rfl (by decide) (by decide) (fc_runV (isC := [0]) (As := [.int 0]) (rest := []) hx hb hml hown hts hK hE hP hD hS hA rfl (by decide) (c_X8_refused l D tc mo sc rd nw tr di kp ik rf ss sp ig lf ac 0 _ ) (cwV 1 hts gX8_shoot_X8_refused rfl rfl rfl hd_X8_refused ⟨Nat.le_of_ble_eq_true rfl, Nat.le_of_ble_eq_true rfl⟩) (ci := 8) rfl rfl rfl rfl hl.1 rfl (Nat.le_of_ble_eq_true rfl) dX8_shoot_13 ⟨Nat.le_of_ble_eq_true rfl, Nat.le_of_ble_eq_true rfl⟩) (fun r_5 u_5 H locs hw_5 hP hD hS => ?_)
    obtain ⟨rf_5, rfl⟩ : ∃ z, z = u_5 := ⟨_, rfl⟩
    obtain ⟨z1_5, z2_5⟩ := fx_ref0 hw_5
    subst z1_5
    subst z2_5
    have hP : va_P D vwCl [(nw, .inl (tc 0, 357, .inl row)), (di, .inl (tc 0, 4998, .inl dia)), (mo, .inr (8, [.int 0, .ref sc, .int ss, .int sp, .int ig, .int lf, .ref rd, .ref nw, .ref tr, .ref di, .int ac, .ref kp, .ref ik]))] H := hP
    have hD : va_D A [(nw, .inl (tc 0, 357, .inl row)), (di, .inl (tc 0, 4998, .inl dia)), (mo, .inr (8, [.int 0, .ref sc, .int ss, .int sp, .int ig, .int lf, .ref rd, .ref nw, .ref tr, .ref di, .int ac, .ref kp, .ref ik]))] := hD
    refine lv_if_eq (tgt := 21) hx hb dX8_shoot_16 (by decide) (fun c_6 => ?_) (fun c_6 => ?_)
    · refine lv_aload_n hx hb dX8_shoot_21 rfl (lv_at hl 0 rfl) ?_
      refine fc_gov (isC := [2, 0, 1]) (isR := []) (wc := [(mo, .inr (8, [.int 0, .ref sc, .int ss, .int sp, .int ig, .int lf, .ref rd, .ref nw, .ref tr, .ref di, .int ac, .ref kp, .ref ik])), (nw, .inl (tc 0, 357, .inl row)), (di, .inl (tc 0, 4998, .inl dia))]) (wr := []) hP hD hS hA rfl rfl (by decide) (by decide) (fc_runV (isC := [2, 0, 1]) (As := []) (rest := []) hx hb hml hown hts hK hE hP hD hS hA rfl (by decide) (c_X8_remember l D tc mo sc rd nw tr di kp ik 0 ss sp ig lf ac row dia _ (by have l_0 : (0 : Int32).toInt = 0 := (by decide); have l_1 : (1 : Int32).toInt = 1 := (by decide); have l_2 : (2 : Int32).toInt = 2 := (by decide); have l_3 : (3 : Int32).toInt = 3 := (by decide); have l_4 : (4 : Int32).toInt = 4 := (by decide); have qc_2 := c_2; (try simp only [fc_le, fc_lt, fc_eq] at qc_2); (try simp only [fc_le, fc_lt, fc_eq]); omega)) (cwV 0 hts gX8_shoot_X8_remember rfl rfl rfl hd_X8_remember ⟨Nat.le_of_ble_eq_true rfl, Nat.le_of_ble_eq_true rfl⟩) (ci := 8) rfl rfl rfl rfl hl.1 rfl (Nat.le_of_ble_eq_true rfl) dX8_shoot_22 ⟨Nat.le_of_ble_eq_true rfl, Nat.le_of_ble_eq_true rfl⟩) (fun u_7 H locs hw_7 hP hD hS => ?_)
      obtain ⟨ac_7, dia_7⟩ := u_7
      try dsimp only at hw_7
      have hP : va_P D vwCl [(mo, .inr (8, [.int 0, .ref sc, .int ss, .int sp, .int ig, .int lf, .ref rd, .ref nw, .ref tr, .ref di, .int ac_7, .ref kp, .ref ik])), (nw, .inl (tc 0, 357, .inl row)), (di, .inl (tc 0, 4998, .inl dia_7))] H := hP
      have hD : va_D A [(mo, .inr (8, [.int 0, .ref sc, .int ss, .int sp, .int ig, .int lf, .ref rd, .ref nw, .ref tr, .ref di, .int ac_7, .ref kp, .ref ik])), (nw, .inl (tc 0, 357, .inl row)), (di, .inl (tc 0, 4998, .inl dia_7))] := hD
      refine lv_aload_n hx hb dX8_shoot_25 rfl (lv_at hl 0 rfl) ?_
      refine va_get (D := D) (ci := 8) (v := .ref nw) (C := RX8) (T := TX8) (N := 13) hx hb hts iX8_shoot_X8 hown hK hP 0 rfl rfl 7 (by decide) (hts (.fieldLink RX8 16 "FrameCardModel" "now" "[I") (by decide +kernel)) (fun _ h9 => h9) rfl dX8_shoot_26 ?_
      refine lv_iload_n hx hb dX8_shoot_29 rfl (lv_at hl 1 rfl) ?_
      refine fc_goi (isC := [1]) (isR := [0, 2]) (wc := [(nw, .inl (tc 0, 357, .inl row))]) (wr := [(mo, .inr (8, [.int 0, .ref sc, .int ss, .int sp, .int ig, .int lf, .ref rd, .ref nw, .ref tr, .ref di, .int ac_7, .ref kp, .ref ik])), (di, .inl (tc 0, 4998, .inl dia_7))]) hP hD hS hA rfl rfl (by decide) (by decide) (fc_runS (isC := [1]) (As := [.ref nw, .int p0]) (rest := []) hx hb hml hown hts hK hE hP hD hS hA rfl (by decide) (c_X8_shootIn l D tc nw row p0 _ k17) (cwS 2 hts gX8_shoot_X8_shootIn rfl rfl rfl hd_X8_shootIn ⟨Nat.le_of_ble_eq_true rfl, Nat.le_of_ble_eq_true rfl⟩) rfl hl.1 rfl (Nat.le_of_ble_eq_true rfl) dX8_shoot_30 ⟨Nat.le_of_ble_eq_true rfl, Nat.le_of_ble_eq_true rfl⟩) (fun r_8 u_8 H locs hw_8 hP hD hS => ?_)
      obtain ⟨row_8, rfl⟩ : ∃ z, z = u_8 := ⟨_, rfl⟩
      try dsimp only at hw_8
      have hP : va_P D vwCl [(mo, .inr (8, [.int 0, .ref sc, .int ss, .int sp, .int ig, .int lf, .ref rd, .ref nw, .ref tr, .ref di, .int ac_7, .ref kp, .ref ik])), (di, .inl (tc 0, 4998, .inl dia_7)), (nw, .inl (tc 0, 357, .inl row_8))] H := hP
      have hD : va_D A [(mo, .inr (8, [.int 0, .ref sc, .int ss, .int sp, .int ig, .int lf, .ref rd, .ref nw, .ref tr, .ref di, .int ac_7, .ref kp, .ref ik])), (di, .inl (tc 0, 4998, .inl dia_7)), (nw, .inl (tc 0, 357, .inl row_8))] := hD
      exact hret _ _ (r_8) (0, ac_7, row_8, dia_7) _ _ (by rw [mX8_shoot]; (try dsimp only); rw [hw_1]; (try dsimp only); rw [if_neg c_2]; rw [hw_7]; (try dsimp only); rw [hw_8]; (try dsimp only); (first | done | rfl)) (hP.sub [0, 2, 1] rfl) (hD.sub [0, 2, 1] (by decide) rfl) hS dX8_shoot_33
    · exact absurd (by decide) c_6
--# X8_ticks
theorem hd_X8_isTicks : yX8_isTicks.cls = RX8 ∧ yX8_isTicks.cls ≠ "java/lang/invoke/MethodHandle" ∧ yX8_isTicks.cls ≠ "java/lang/invoke/VarHandle" ∧ (parseMethodDescriptor yX8_isTicks.desc).map (fun d => d.parameters.length) = some 1 := by decide +kernel
theorem hd_X8_isTicksn : yX8_isTicks.cls ≠ "java/lang/invoke/MethodHandle" ∧ yX8_isTicks.cls ≠ "java/lang/invoke/VarHandle" ∧ (parseMethodDescriptor yX8_isTicks.desc).map (fun d => d.parameters.length) = some 1 := by decide +kernel
theorem hd_X8_ticksIn : yX8_ticksIn.cls = RX8 ∧ yX8_ticksIn.cls ≠ "java/lang/invoke/MethodHandle" ∧ yX8_ticksIn.cls ≠ "java/lang/invoke/VarHandle" ∧ (parseMethodDescriptor yX8_ticksIn.desc).map (fun d => d.parameters.length) = some 2 := by decide +kernel
theorem hd_X8_ticksInn : yX8_ticksIn.cls ≠ "java/lang/invoke/MethodHandle" ∧ yX8_ticksIn.cls ≠ "java/lang/invoke/VarHandle" ∧ (parseMethodDescriptor yX8_ticksIn.desc).map (fun d => d.parameters.length) = some 2 := by decide +kernel
noncomputable def mX8_ticks (rf : Int32) (ss : Int32) (sp : Int32) (ig : Int32) (lf : Int32) (ac : Int32) (row : Nat → Int32) (dia : Nat → Int32) (p0 : Int32) : Int32 × Int32 × Int32 × (Nat → Int32) × (Nat → Int32) :=
  let r_1 := mX8_isTicks p0
  if r_1 = 0 then
    (0, 1, ac, row, dia)
  else
    match mX8_remember 0 ss sp ig lf ac row dia with
    | (ac_7, dia_7) =>
      match mX8_ticksIn row p0 with
      | (r_8, row_8) =>
        (r_8, 0, ac_7, row_8, dia_7)
set_option maxRecDepth 20000 in
theorem iX8_ticks_X8 : ∀ w ∈ wsX80, w ∈ wsX8_ticks := by decide +kernel
abbrev rmX8_ticks : Room := { frames := 5, cells := 0, slots := 0, locals := 114 }
set_option maxHeartbeats 4000000 in
set_option maxRecDepth 100000 in
theorem c_X8_ticks (l : Launch) (D : va_G) (tc : Nat → ClassId) (mo : Nat) (sc : Nat) (rd : Nat) (nw : Nat) (tr : Nat) (di : Nat) (kp : Nat) (ik : Nat) (rf : Int32) (ss : Int32) (sp : Int32) (ig : Int32) (lf : Int32) (ac : Int32) (row : Nat → Int32) (dia : Nat → Int32) (p0 : Int32) (sz : Nat) (hR : RXn 51 row) (hac : 0 ≤ ac.toInt ∧ ac.toInt ≤ 14) : Met l yX8_ticks wsX8_ticks rmX8_ticks (va_Pc [.ref mo, .int p0] (fcB D tc [(mo, .inr (8, [.int rf, .ref sc, .int ss, .int sp, .int ig, .int lf, .ref rd, .ref nw, .ref tr, .ref di, .int ac, .ref kp, .ref ik])), (nw, .inl (tc 0, 357, .inl row)), (di, .inl (tc 0, 4998, .inl dia))] sz)) (va_Qi (fun (r : Int32) (u : Int32 × Int32 × (Nat → Int32) × (Nat → Int32)) => mX8_ticks rf ss sp ig lf ac row dia p0 = (r, u)) (fun u t => fcO D (va_A [(mo, .inr (8, [.int rf, .ref sc, .int ss, .int sp, .int ig, .int lf, .ref rd, .ref nw, .ref tr, .ref di, .int ac, .ref kp, .ref ik])), (nw, .inl (tc 0, 357, .inl row)), (di, .inl (tc 0, 4998, .inl dia))] sz) ((fun (u : Int32 × Int32 × (Nat → Int32) × (Nat → Int32)) => [(mo, .inr (8, [.int (u.1), .ref sc, .int ss, .int sp, .int ig, .int lf, .ref rd, .ref nw, .ref tr, .ref di, .int (u.2.1), .ref kp, .ref ik])), (nw, .inl (tc 0, 357, .inl (u.2.2.1))), (di, .inl (tc 0, 4998, .inl (u.2.2.2)))]) u) t) (va_A [(mo, .inr (8, [.int rf, .ref sc, .int ss, .int sp, .int ig, .int lf, .ref rd, .ref nw, .ref tr, .ref di, .int ac, .ref kp, .ref ik])), (nw, .inl (tc 0, 357, .inl row)), (di, .inl (tc 0, 4998, .inl dia))] sz)) 0 0 (va_A [(mo, .inr (8, [.int rf, .ref sc, .int ss, .int sp, .int ig, .int lf, .ref rd, .ref nw, .ref tr, .ref di, .int ac, .ref kp, .ref ik])), (nw, .inl (tc 0, 357, .inl row)), (di, .inl (tc 0, 4998, .inl dia))] sz) := by
  refine fc_ofWi (own := RX8) (cc := cX8_ticks) (maxL := 2) (W1 := (fun (u : Int32 × Int32 × (Nat → Int32) × (Nat → Int32)) => [(mo, .inr (8, [.int (u.1), .ref sc, .int ss, .int sp, .int ig, .int lf, .ref rd, .ref nw, .ref tr, .ref di, .int (u.2.1), .ref kp, .ref ik])), (nw, .inl (tc 0, 357, .inl (u.2.2.1))), (di, .inl (tc 0, 4998, .inl (u.2.2.2)))])) rfl (by decide) rfl (Nat.le_of_ble_eq_true rfl) ?_
  intro p e s m args below meth c A Q hx hb hml hown hts hK hE hP hD hS hA hin hret ls hl
  have hl : lv_has ls 2 [(0, .ref mo), (1, .int p0)] := hl
  have k3 := (RX_K hR).1
  have k16 := (RX_K hR).2.1
  have k17 := (RX_K hR).2.2
  have k18 := RX_18 hR
  have b3 := fc_subk (x := row (3 : Int32).toNatClampNeg) (k := 1) (n := 1) (by decide) (by omega) (by omega)
  have b16 := fc_subk (x := row (16 : Int32).toNatClampNeg) (k := 1) (n := 1) (by decide) (by omega) (by omega)
  have b17 := fc_subk (x := row (17 : Int32).toNatClampNeg) (k := 1) (n := 1) (by decide) (by omega) (by omega)
  have b18 := fc_subk (x := row (18 : Int32).toNatClampNeg) (k := 1) (n := 1) (by decide) (by omega) (by omega)
  refine lv_aload_n hx hb dX8_ticks_0 rfl (lv_at hl 0 rfl) ?_
  refine lv_iload_n hx hb dX8_ticks_1 rfl (lv_at hl 1 rfl) ?_
  refine fc_goi (isC := []) (isR := [0, 1, 2]) (wc := []) (wr := [(mo, .inr (8, [.int rf, .ref sc, .int ss, .int sp, .int ig, .int lf, .ref rd, .ref nw, .ref tr, .ref di, .int ac, .ref kp, .ref ik])), (nw, .inl (tc 0, 357, .inl row)), (di, .inl (tc 0, 4998, .inl dia))]) hP hD hS hA rfl rfl (by decide) (by decide) (fc_runS (isC := []) (As := [.int p0]) (rest := [.ref mo]) hx hb hml hown hts hK hE hP hD hS hA rfl (by decide) (c_X8_isTicks l D tc p0 _ ) (cwS 1 hts gX8_ticks_X8_isTicks rfl rfl rfl hd_X8_isTicks ⟨Nat.le_of_ble_eq_true rfl, Nat.le_of_ble_eq_true rfl⟩) rfl hl.1 rfl (Nat.le_of_ble_eq_true rfl) dX8_ticks_2 ⟨Nat.le_of_ble_eq_true rfl, Nat.le_of_ble_eq_true rfl⟩) (fun r_1 u_1 H locs hw_1 hP hD hS => ?_)
  try dsimp only at hw_1
  have hP : va_P D vwCl [(mo, .inr (8, [.int rf, .ref sc, .int ss, .int sp, .int ig, .int lf, .ref rd, .ref nw, .ref tr, .ref di, .int ac, .ref kp, .ref ik])), (nw, .inl (tc 0, 357, .inl row)), (di, .inl (tc 0, 4998, .inl dia))] H := hP
  have hD : va_D A [(mo, .inr (8, [.int rf, .ref sc, .int ss, .int sp, .int ig, .int lf, .ref rd, .ref nw, .ref tr, .ref di, .int ac, .ref kp, .ref ik])), (nw, .inl (tc 0, 357, .inl row)), (di, .inl (tc 0, 4998, .inl dia))] := hD
  have hi_1 := fx_isTicks8 hw_1
  refine lv_if_eq (tgt := 12) hx hb dX8_ticks_5 (by decide) (fun c_2 => ?_) (fun c_2 => ?_)
  · refine lv_iconst (v := 1) hx hb dX8_ticks_12 (by decide) ?_
    refine fc_goi (isC := [0]) (isR := [1, 2]) (wc := [(mo, .inr (8, [.int rf, .ref sc, .int ss, .int sp, .int ig, .int lf, .ref rd, .ref nw, .ref tr, .ref di, .int ac, .ref kp, .ref ik]))]) (wr := [(nw, .inl (tc 0, 357, .inl row)), (di, .inl (tc 0, 4998, .inl dia))]) hP hD hS hA rfl rfl (by decide) (by decide) (fc_runV (isC := [0]) (As := [.int 1]) (rest := []) hx hb hml hown hts hK hE hP hD hS hA rfl (by decide) (c_X8_refused l D tc mo sc rd nw tr di kp ik rf ss sp ig lf ac 1 _ ) (cwV 1 hts gX8_ticks_X8_refused rfl rfl rfl hd_X8_refused ⟨Nat.le_of_ble_eq_true rfl, Nat.le_of_ble_eq_true rfl⟩) (ci := 8) rfl rfl rfl rfl hl.1 rfl (Nat.le_of_ble_eq_true rfl) dX8_ticks_13 ⟨Nat.le_of_ble_eq_true rfl, Nat.le_of_ble_eq_true rfl⟩) (fun r_3 u_3 H locs hw_3 hP hD hS => ?_)
    obtain ⟨rf_3, rfl⟩ : ∃ z, z = u_3 := ⟨_, rfl⟩
    obtain ⟨z1_3, z2_3⟩ := fx_ref1 hw_3
    subst z1_3
    subst z2_3
    have hP : va_P D vwCl [(nw, .inl (tc 0, 357, .inl row)), (di, .inl (tc 0, 4998, .inl dia)), (mo, .inr (8, [.int 1, .ref sc, .int ss, .int sp, .int ig, .int lf, .ref rd, .ref nw, .ref tr, .ref di, .int ac, .ref kp, .ref ik]))] H := hP
    have hD : va_D A [(nw, .inl (tc 0, 357, .inl row)), (di, .inl (tc 0, 4998, .inl dia)), (mo, .inr (8, [.int 1, .ref sc, .int ss, .int sp, .int ig, .int lf, .ref rd, .ref nw, .ref tr, .ref di, .int ac, .ref kp, .ref ik]))] := hD
    refine lv_if_eq (tgt := 21) hx hb dX8_ticks_16 (by decide) (fun c_4 => ?_) (fun c_4 => ?_)
    · exact absurd c_4 (by decide)
    · refine lv_iconst (v := 0) hx hb dX8_ticks_19 (by decide) ?_
      exact hret _ _ (0) (1, ac, row, dia) _ _ (by rw [mX8_ticks]; (try dsimp only); rw [hw_1]; (try dsimp only); rw [if_pos c_2]; (first | done | rfl)) (hP.sub [2, 0, 1] rfl) (hD.sub [2, 0, 1] (by decide) rfl) hS dX8_ticks_20
  · have hj_1 := hi_1.resolve_left c_2
    refine lv_iconst (v := 0) hx hb dX8_ticks_8 (by decide) ?_
    refine lv_goto (tgt := 13) hx hb dX8_ticks_9 (by decide) ?_
    refine fc_goi (isC := [0]) (isR := [1, 2]) (wc := [(mo, .inr (8, [.int rf, .ref sc, .int ss, .int sp, .int ig, .int lf, .ref rd, .ref nw, .ref tr, .ref di, .int ac, .ref kp, .ref ik]))]) (wr := [(nw, .inl (tc 0, 357, .inl row)), (di, .inl (tc 0, 4998, .inl dia))]) hP hD hS hA rfl rfl (by decide) (by decide) (fc_runV (isC := [0]) (As := [.int 0]) (rest := []) hx hb hml hown hts hK hE hP hD hS hA rfl (by decide) (c_X8_refused l D tc mo sc rd nw tr di kp ik rf ss sp ig lf ac 0 _ ) (cwV 1 hts gX8_ticks_X8_refused rfl rfl rfl hd_X8_refused ⟨Nat.le_of_ble_eq_true rfl, Nat.le_of_ble_eq_true rfl⟩) (ci := 8) rfl rfl rfl rfl hl.1 rfl (Nat.le_of_ble_eq_true rfl) dX8_ticks_13 ⟨Nat.le_of_ble_eq_true rfl, Nat.le_of_ble_eq_true rfl⟩) (fun r_5 u_5 H locs hw_5 hP hD hS => ?_)
    obtain ⟨rf_5, rfl⟩ : ∃ z, z = u_5 := ⟨_, rfl⟩
    obtain ⟨z1_5, z2_5⟩ := fx_ref0 hw_5
    subst z1_5
    subst z2_5
    have hP : va_P D vwCl [(nw, .inl (tc 0, 357, .inl row)), (di, .inl (tc 0, 4998, .inl dia)), (mo, .inr (8, [.int 0, .ref sc, .int ss, .int sp, .int ig, .int lf, .ref rd, .ref nw, .ref tr, .ref di, .int ac, .ref kp, .ref ik]))] H := hP
    have hD : va_D A [(nw, .inl (tc 0, 357, .inl row)), (di, .inl (tc 0, 4998, .inl dia)), (mo, .inr (8, [.int 0, .ref sc, .int ss, .int sp, .int ig, .int lf, .ref rd, .ref nw, .ref tr, .ref di, .int ac, .ref kp, .ref ik]))] := hD
    refine lv_if_eq (tgt := 21) hx hb dX8_ticks_16 (by decide) (fun c_6 => ?_) (fun c_6 => ?_)
    · refine lv_aload_n hx hb dX8_ticks_21 rfl (lv_at hl 0 rfl) ?_
      refine fc_gov (isC := [2, 0, 1]) (isR := []) (wc := [(mo, .inr (8, [.int 0, .ref sc, .int ss, .int sp, .int ig, .int lf, .ref rd, .ref nw, .ref tr, .ref di, .int ac, .ref kp, .ref ik])), (nw, .inl (tc 0, 357, .inl row)), (di, .inl (tc 0, 4998, .inl dia))]) (wr := []) hP hD hS hA rfl rfl (by decide) (by decide) (fc_runV (isC := [2, 0, 1]) (As := []) (rest := []) hx hb hml hown hts hK hE hP hD hS hA rfl (by decide) (c_X8_remember l D tc mo sc rd nw tr di kp ik 0 ss sp ig lf ac row dia _ (by have l_0 : (0 : Int32).toInt = 0 := (by decide); have l_1 : (1 : Int32).toInt = 1 := (by decide); have l_2 : (2 : Int32).toInt = 2 := (by decide); have l_3 : (3 : Int32).toInt = 3 := (by decide); have l_4 : (4 : Int32).toInt = 4 := (by decide); have l_50 : (50 : Int32).toInt = 50 := (by decide); have qc_2 := c_2; (try simp only [fc_le, fc_lt, fc_eq] at qc_2); have qhj_1 := hj_1; (try simp only [fc_le, fc_lt, fc_eq] at qhj_1); (try simp only [fc_le, fc_lt, fc_eq]); omega)) (cwV 0 hts gX8_ticks_X8_remember rfl rfl rfl hd_X8_remember ⟨Nat.le_of_ble_eq_true rfl, Nat.le_of_ble_eq_true rfl⟩) (ci := 8) rfl rfl rfl rfl hl.1 rfl (Nat.le_of_ble_eq_true rfl) dX8_ticks_22 ⟨Nat.le_of_ble_eq_true rfl, Nat.le_of_ble_eq_true rfl⟩) (fun u_7 H locs hw_7 hP hD hS => ?_)
      obtain ⟨ac_7, dia_7⟩ := u_7
      try dsimp only at hw_7
      have hP : va_P D vwCl [(mo, .inr (8, [.int 0, .ref sc, .int ss, .int sp, .int ig, .int lf, .ref rd, .ref nw, .ref tr, .ref di, .int ac_7, .ref kp, .ref ik])), (nw, .inl (tc 0, 357, .inl row)), (di, .inl (tc 0, 4998, .inl dia_7))] H := hP
      have hD : va_D A [(mo, .inr (8, [.int 0, .ref sc, .int ss, .int sp, .int ig, .int lf, .ref rd, .ref nw, .ref tr, .ref di, .int ac_7, .ref kp, .ref ik])), (nw, .inl (tc 0, 357, .inl row)), (di, .inl (tc 0, 4998, .inl dia_7))] := hD
      refine lv_aload_n hx hb dX8_ticks_25 rfl (lv_at hl 0 rfl) ?_
      refine va_get (D := D) (ci := 8) (v := .ref nw) (C := RX8) (T := TX8) (N := 13) hx hb hts iX8_ticks_X8 hown hK hP 0 rfl rfl 7 (by decide) (hts (.fieldLink RX8 16 "FrameCardModel" "now" "[I") (by decide +kernel)) (fun _ h9 => h9) rfl dX8_ticks_26 ?_
      refine lv_iload_n hx hb dX8_ticks_29 rfl (lv_at hl 1 rfl) ?_
      refine fc_goi (isC := [1]) (isR := [0, 2]) (wc := [(nw, .inl (tc 0, 357, .inl row))]) (wr := [(mo, .inr (8, [.int 0, .ref sc, .int ss, .int sp, .int ig, .int lf, .ref rd, .ref nw, .ref tr, .ref di, .int ac_7, .ref kp, .ref ik])), (di, .inl (tc 0, 4998, .inl dia_7))]) hP hD hS hA rfl rfl (by decide) (by decide) (fc_runS (isC := [1]) (As := [.ref nw, .int p0]) (rest := []) hx hb hml hown hts hK hE hP hD hS hA rfl (by decide) (c_X8_ticksIn l D tc nw row p0 _ (by omega) hR) (cwS 2 hts gX8_ticks_X8_ticksIn rfl rfl rfl hd_X8_ticksIn ⟨Nat.le_of_ble_eq_true rfl, Nat.le_of_ble_eq_true rfl⟩) rfl hl.1 rfl (Nat.le_of_ble_eq_true rfl) dX8_ticks_30 ⟨Nat.le_of_ble_eq_true rfl, Nat.le_of_ble_eq_true rfl⟩) (fun r_8 u_8 H locs hw_8 hP hD hS => ?_)
      obtain ⟨row_8, rfl⟩ : ∃ z, z = u_8 := ⟨_, rfl⟩
      try dsimp only at hw_8
      have hP : va_P D vwCl [(mo, .inr (8, [.int 0, .ref sc, .int ss, .int sp, .int ig, .int lf, .ref rd, .ref nw, .ref tr, .ref di, .int ac_7, .ref kp, .ref ik])), (di, .inl (tc 0, 4998, .inl dia_7)), (nw, .inl (tc 0, 357, .inl row_8))] H := hP
      have hD : va_D A [(mo, .inr (8, [.int 0, .ref sc, .int ss, .int sp, .int ig, .int lf, .ref rd, .ref nw, .ref tr, .ref di, .int ac_7, .ref kp, .ref ik])), (di, .inl (tc 0, 4998, .inl dia_7)), (nw, .inl (tc 0, 357, .inl row_8))] := hD
      exact hret _ _ (r_8) (0, ac_7, row_8, dia_7) _ _ (by rw [mX8_ticks]; (try dsimp only); rw [hw_1]; (try dsimp only); rw [if_neg c_2]; rw [hw_7]; (try dsimp only); rw [hw_8]; (try dsimp only); (first | done | rfl)) (hP.sub [0, 2, 1] rfl) (hD.sub [0, 2, 1] (by decide) rfl) hS dX8_ticks_33
    · exact absurd (by decide) c_6
--# X8_drop
noncomputable def mX8_drop (rf : Int32) (ss : Int32) (sp : Int32) (ig : Int32) (lf : Int32) (ac : Int32) (row : Nat → Int32) (dia : Nat → Int32) (p0 : Int32) : Int32 × Int32 × Int32 × (Nat → Int32) × (Nat → Int32) :=
  let r_1 := mX8_isFrame rf ss sp ig lf ac row p0
  if r_1 = 0 then
    (0, 1, ac, row, dia)
  else
    match mX8_remember 0 ss sp ig lf ac row dia with
    | (ac_7, dia_7) =>
      match mX8_dropIn row p0 with
      | (r_8, row_8) =>
        (r_8, 0, ac_7, row_8, dia_7)
set_option maxRecDepth 20000 in
theorem iX8_drop_X8 : ∀ w ∈ wsX80, w ∈ wsX8_drop := by decide +kernel
abbrev rmX8_drop : Room := { frames := 2, cells := 0, slots := 0, locals := 49 }
set_option maxHeartbeats 4000000 in
set_option maxRecDepth 100000 in
theorem c_X8_drop (l : Launch) (D : va_G) (tc : Nat → ClassId) (mo : Nat) (sc : Nat) (rd : Nat) (nw : Nat) (tr : Nat) (di : Nat) (kp : Nat) (ik : Nat) (rf : Int32) (ss : Int32) (sp : Int32) (ig : Int32) (lf : Int32) (ac : Int32) (row : Nat → Int32) (dia : Nat → Int32) (p0 : Int32) (sz : Nat) (hR : RXn 51 row) (hac : 0 ≤ ac.toInt ∧ ac.toInt ≤ 14) : Met l yX8_drop wsX8_drop rmX8_drop (va_Pc [.ref mo, .int p0] (fcB D tc [(mo, .inr (8, [.int rf, .ref sc, .int ss, .int sp, .int ig, .int lf, .ref rd, .ref nw, .ref tr, .ref di, .int ac, .ref kp, .ref ik])), (nw, .inl (tc 0, 357, .inl row)), (di, .inl (tc 0, 4998, .inl dia))] sz)) (va_Qi (fun (r : Int32) (u : Int32 × Int32 × (Nat → Int32) × (Nat → Int32)) => mX8_drop rf ss sp ig lf ac row dia p0 = (r, u)) (fun u t => fcO D (va_A [(mo, .inr (8, [.int rf, .ref sc, .int ss, .int sp, .int ig, .int lf, .ref rd, .ref nw, .ref tr, .ref di, .int ac, .ref kp, .ref ik])), (nw, .inl (tc 0, 357, .inl row)), (di, .inl (tc 0, 4998, .inl dia))] sz) ((fun (u : Int32 × Int32 × (Nat → Int32) × (Nat → Int32)) => [(mo, .inr (8, [.int (u.1), .ref sc, .int ss, .int sp, .int ig, .int lf, .ref rd, .ref nw, .ref tr, .ref di, .int (u.2.1), .ref kp, .ref ik])), (nw, .inl (tc 0, 357, .inl (u.2.2.1))), (di, .inl (tc 0, 4998, .inl (u.2.2.2)))]) u) t) (va_A [(mo, .inr (8, [.int rf, .ref sc, .int ss, .int sp, .int ig, .int lf, .ref rd, .ref nw, .ref tr, .ref di, .int ac, .ref kp, .ref ik])), (nw, .inl (tc 0, 357, .inl row)), (di, .inl (tc 0, 4998, .inl dia))] sz)) 0 0 (va_A [(mo, .inr (8, [.int rf, .ref sc, .int ss, .int sp, .int ig, .int lf, .ref rd, .ref nw, .ref tr, .ref di, .int ac, .ref kp, .ref ik])), (nw, .inl (tc 0, 357, .inl row)), (di, .inl (tc 0, 4998, .inl dia))] sz) := by
  refine fc_ofWi (own := RX8) (cc := cX8_drop) (maxL := 2) (W1 := (fun (u : Int32 × Int32 × (Nat → Int32) × (Nat → Int32)) => [(mo, .inr (8, [.int (u.1), .ref sc, .int ss, .int sp, .int ig, .int lf, .ref rd, .ref nw, .ref tr, .ref di, .int (u.2.1), .ref kp, .ref ik])), (nw, .inl (tc 0, 357, .inl (u.2.2.1))), (di, .inl (tc 0, 4998, .inl (u.2.2.2)))])) rfl (by decide) rfl (Nat.le_of_ble_eq_true rfl) ?_
  intro p e s m args below meth c A Q hx hb hml hown hts hK hE hP hD hS hA hin hret ls hl
  have hl : lv_has ls 2 [(0, .ref mo), (1, .int p0)] := hl
  have k3 := (RX_K hR).1
  have k16 := (RX_K hR).2.1
  have k17 := (RX_K hR).2.2
  have k18 := RX_18 hR
  have b3 := fc_subk (x := row (3 : Int32).toNatClampNeg) (k := 1) (n := 1) (by decide) (by omega) (by omega)
  have b16 := fc_subk (x := row (16 : Int32).toNatClampNeg) (k := 1) (n := 1) (by decide) (by omega) (by omega)
  have b17 := fc_subk (x := row (17 : Int32).toNatClampNeg) (k := 1) (n := 1) (by decide) (by omega) (by omega)
  have b18 := fc_subk (x := row (18 : Int32).toNatClampNeg) (k := 1) (n := 1) (by decide) (by omega) (by omega)
  refine lv_aload_n hx hb dX8_drop_0 rfl (lv_at hl 0 rfl) ?_
  refine lv_aload_n hx hb dX8_drop_1 rfl (lv_at hl 0 rfl) ?_
  refine lv_iload_n hx hb dX8_drop_2 rfl (lv_at hl 1 rfl) ?_
  refine fc_goi (isC := [0, 1]) (isR := [2]) (wc := [(mo, .inr (8, [.int rf, .ref sc, .int ss, .int sp, .int ig, .int lf, .ref rd, .ref nw, .ref tr, .ref di, .int ac, .ref kp, .ref ik])), (nw, .inl (tc 0, 357, .inl row))]) (wr := [(di, .inl (tc 0, 4998, .inl dia))]) hP hD hS hA rfl rfl (by decide) (by decide) (fc_runV (isC := [0, 1]) (As := [.int p0]) (rest := [.ref mo]) hx hb hml hown hts hK hE hP hD hS hA rfl (by decide) (c_X8_isFrame l D tc mo sc rd nw tr di kp ik rf ss sp ig lf ac row p0 _ ) (cwV 1 hts gX8_drop_X8_isFrame rfl rfl rfl hd_X8_isFrame ⟨Nat.le_of_ble_eq_true rfl, Nat.le_of_ble_eq_true rfl⟩) (ci := 8) rfl rfl rfl rfl hl.1 rfl (Nat.le_of_ble_eq_true rfl) dX8_drop_3 ⟨Nat.le_of_ble_eq_true rfl, Nat.le_of_ble_eq_true rfl⟩) (fun r_1 u_1 H locs hw_1 hP hD hS => ?_)
  try dsimp only at hw_1
  have hP : va_P D vwCl [(di, .inl (tc 0, 4998, .inl dia)), (mo, .inr (8, [.int rf, .ref sc, .int ss, .int sp, .int ig, .int lf, .ref rd, .ref nw, .ref tr, .ref di, .int ac, .ref kp, .ref ik])), (nw, .inl (tc 0, 357, .inl row))] H := hP
  have hD : va_D A [(di, .inl (tc 0, 4998, .inl dia)), (mo, .inr (8, [.int rf, .ref sc, .int ss, .int sp, .int ig, .int lf, .ref rd, .ref nw, .ref tr, .ref di, .int ac, .ref kp, .ref ik])), (nw, .inl (tc 0, 357, .inl row))] := hD
  have hi_1 := fx_isFrame hw_1 k16
  refine lv_if_eq (tgt := 13) hx hb dX8_drop_6 (by decide) (fun c_2 => ?_) (fun c_2 => ?_)
  · refine lv_iconst (v := 1) hx hb dX8_drop_13 (by decide) ?_
    refine fc_goi (isC := [1]) (isR := [0, 2]) (wc := [(mo, .inr (8, [.int rf, .ref sc, .int ss, .int sp, .int ig, .int lf, .ref rd, .ref nw, .ref tr, .ref di, .int ac, .ref kp, .ref ik]))]) (wr := [(di, .inl (tc 0, 4998, .inl dia)), (nw, .inl (tc 0, 357, .inl row))]) hP hD hS hA rfl rfl (by decide) (by decide) (fc_runV (isC := [1]) (As := [.int 1]) (rest := []) hx hb hml hown hts hK hE hP hD hS hA rfl (by decide) (c_X8_refused l D tc mo sc rd nw tr di kp ik rf ss sp ig lf ac 1 _ ) (cwV 1 hts gX8_drop_X8_refused rfl rfl rfl hd_X8_refused ⟨Nat.le_of_ble_eq_true rfl, Nat.le_of_ble_eq_true rfl⟩) (ci := 8) rfl rfl rfl rfl hl.1 rfl (Nat.le_of_ble_eq_true rfl) dX8_drop_14 ⟨Nat.le_of_ble_eq_true rfl, Nat.le_of_ble_eq_true rfl⟩) (fun r_3 u_3 H locs hw_3 hP hD hS => ?_)
    obtain ⟨rf_3, rfl⟩ : ∃ z, z = u_3 := ⟨_, rfl⟩
    obtain ⟨z1_3, z2_3⟩ := fx_ref1 hw_3
    subst z1_3
    subst z2_3
    have hP : va_P D vwCl [(di, .inl (tc 0, 4998, .inl dia)), (nw, .inl (tc 0, 357, .inl row)), (mo, .inr (8, [.int 1, .ref sc, .int ss, .int sp, .int ig, .int lf, .ref rd, .ref nw, .ref tr, .ref di, .int ac, .ref kp, .ref ik]))] H := hP
    have hD : va_D A [(di, .inl (tc 0, 4998, .inl dia)), (nw, .inl (tc 0, 357, .inl row)), (mo, .inr (8, [.int 1, .ref sc, .int ss, .int sp, .int ig, .int lf, .ref rd, .ref nw, .ref tr, .ref di, .int ac, .ref kp, .ref ik]))] := hD
    refine lv_if_eq (tgt := 22) hx hb dX8_drop_17 (by decide) (fun c_4 => ?_) (fun c_4 => ?_)
    · exact absurd c_4 (by decide)
    · refine lv_iconst (v := 0) hx hb dX8_drop_20 (by decide) ?_
      exact hret _ _ (0) (1, ac, row, dia) _ _ (by rw [mX8_drop]; (try dsimp only); rw [hw_1]; (try dsimp only); rw [if_pos c_2]; (first | done | rfl)) (hP.sub [2, 1, 0] rfl) (hD.sub [2, 1, 0] (by decide) rfl) hS dX8_drop_21
  · have hj_1 := hi_1.resolve_left c_2
    refine lv_iconst (v := 0) hx hb dX8_drop_9 (by decide) ?_
    refine lv_goto (tgt := 14) hx hb dX8_drop_10 (by decide) ?_
    refine fc_goi (isC := [1]) (isR := [0, 2]) (wc := [(mo, .inr (8, [.int rf, .ref sc, .int ss, .int sp, .int ig, .int lf, .ref rd, .ref nw, .ref tr, .ref di, .int ac, .ref kp, .ref ik]))]) (wr := [(di, .inl (tc 0, 4998, .inl dia)), (nw, .inl (tc 0, 357, .inl row))]) hP hD hS hA rfl rfl (by decide) (by decide) (fc_runV (isC := [1]) (As := [.int 0]) (rest := []) hx hb hml hown hts hK hE hP hD hS hA rfl (by decide) (c_X8_refused l D tc mo sc rd nw tr di kp ik rf ss sp ig lf ac 0 _ ) (cwV 1 hts gX8_drop_X8_refused rfl rfl rfl hd_X8_refused ⟨Nat.le_of_ble_eq_true rfl, Nat.le_of_ble_eq_true rfl⟩) (ci := 8) rfl rfl rfl rfl hl.1 rfl (Nat.le_of_ble_eq_true rfl) dX8_drop_14 ⟨Nat.le_of_ble_eq_true rfl, Nat.le_of_ble_eq_true rfl⟩) (fun r_5 u_5 H locs hw_5 hP hD hS => ?_)
    obtain ⟨rf_5, rfl⟩ : ∃ z, z = u_5 := ⟨_, rfl⟩
    obtain ⟨z1_5, z2_5⟩ := fx_ref0 hw_5
    subst z1_5
    subst z2_5
    have hP : va_P D vwCl [(di, .inl (tc 0, 4998, .inl dia)), (nw, .inl (tc 0, 357, .inl row)), (mo, .inr (8, [.int 0, .ref sc, .int ss, .int sp, .int ig, .int lf, .ref rd, .ref nw, .ref tr, .ref di, .int ac, .ref kp, .ref ik]))] H := hP
    have hD : va_D A [(di, .inl (tc 0, 4998, .inl dia)), (nw, .inl (tc 0, 357, .inl row)), (mo, .inr (8, [.int 0, .ref sc, .int ss, .int sp, .int ig, .int lf, .ref rd, .ref nw, .ref tr, .ref di, .int ac, .ref kp, .ref ik]))] := hD
    refine lv_if_eq (tgt := 22) hx hb dX8_drop_17 (by decide) (fun c_6 => ?_) (fun c_6 => ?_)
    · refine lv_aload_n hx hb dX8_drop_22 rfl (lv_at hl 0 rfl) ?_
      refine fc_gov (isC := [2, 1, 0]) (isR := []) (wc := [(mo, .inr (8, [.int 0, .ref sc, .int ss, .int sp, .int ig, .int lf, .ref rd, .ref nw, .ref tr, .ref di, .int ac, .ref kp, .ref ik])), (nw, .inl (tc 0, 357, .inl row)), (di, .inl (tc 0, 4998, .inl dia))]) (wr := []) hP hD hS hA rfl rfl (by decide) (by decide) (fc_runV (isC := [2, 1, 0]) (As := []) (rest := []) hx hb hml hown hts hK hE hP hD hS hA rfl (by decide) (c_X8_remember l D tc mo sc rd nw tr di kp ik 0 ss sp ig lf ac row dia _ (by have l_0 : (0 : Int32).toInt = 0 := (by decide); have l_1 : (1 : Int32).toInt = 1 := (by decide); have l_16 : (16 : Int32).toInt = 16 := (by decide); have l_2 : (2 : Int32).toInt = 2 := (by decide); have l_3 : (3 : Int32).toInt = 3 := (by decide); have l_4 : (4 : Int32).toInt = 4 := (by decide); have qc_2 := c_2; (try simp only [fc_le, fc_lt, fc_eq] at qc_2); have qhj_1 := hj_1; (try simp only [fc_le, fc_lt, fc_eq] at qhj_1); (try simp only [fc_le, fc_lt, fc_eq]); omega)) (cwV 0 hts gX8_drop_X8_remember rfl rfl rfl hd_X8_remember ⟨Nat.le_of_ble_eq_true rfl, Nat.le_of_ble_eq_true rfl⟩) (ci := 8) rfl rfl rfl rfl hl.1 rfl (Nat.le_of_ble_eq_true rfl) dX8_drop_23 ⟨Nat.le_of_ble_eq_true rfl, Nat.le_of_ble_eq_true rfl⟩) (fun u_7 H locs hw_7 hP hD hS => ?_)
      obtain ⟨ac_7, dia_7⟩ := u_7
      try dsimp only at hw_7
      have hP : va_P D vwCl [(mo, .inr (8, [.int 0, .ref sc, .int ss, .int sp, .int ig, .int lf, .ref rd, .ref nw, .ref tr, .ref di, .int ac_7, .ref kp, .ref ik])), (nw, .inl (tc 0, 357, .inl row)), (di, .inl (tc 0, 4998, .inl dia_7))] H := hP
      have hD : va_D A [(mo, .inr (8, [.int 0, .ref sc, .int ss, .int sp, .int ig, .int lf, .ref rd, .ref nw, .ref tr, .ref di, .int ac_7, .ref kp, .ref ik])), (nw, .inl (tc 0, 357, .inl row)), (di, .inl (tc 0, 4998, .inl dia_7))] := hD
      refine lv_aload_n hx hb dX8_drop_26 rfl (lv_at hl 0 rfl) ?_
      refine va_get (D := D) (ci := 8) (v := .ref nw) (C := RX8) (T := TX8) (N := 13) hx hb hts iX8_drop_X8 hown hK hP 0 rfl rfl 7 (by decide) (hts (.fieldLink RX8 16 "FrameCardModel" "now" "[I") (by decide +kernel)) (fun _ h9 => h9) rfl dX8_drop_27 ?_
      refine lv_iload_n hx hb dX8_drop_30 rfl (lv_at hl 1 rfl) ?_
      refine fc_goi (isC := [1]) (isR := [0, 2]) (wc := [(nw, .inl (tc 0, 357, .inl row))]) (wr := [(mo, .inr (8, [.int 0, .ref sc, .int ss, .int sp, .int ig, .int lf, .ref rd, .ref nw, .ref tr, .ref di, .int ac_7, .ref kp, .ref ik])), (di, .inl (tc 0, 4998, .inl dia_7))]) hP hD hS hA rfl rfl (by decide) (by decide) (fc_runS (isC := [1]) (As := [.ref nw, .int p0]) (rest := []) hx hb hml hown hts hK hE hP hD hS hA rfl (by decide) (c_X8_dropIn l D tc nw row p0 _ k3 k16.2 (by omega)) (cwS 2 hts gX8_drop_X8_dropIn rfl rfl rfl hd_X8_dropIn ⟨Nat.le_of_ble_eq_true rfl, Nat.le_of_ble_eq_true rfl⟩) rfl hl.1 rfl (Nat.le_of_ble_eq_true rfl) dX8_drop_31 ⟨Nat.le_of_ble_eq_true rfl, Nat.le_of_ble_eq_true rfl⟩) (fun r_8 u_8 H locs hw_8 hP hD hS => ?_)
      obtain ⟨row_8, rfl⟩ : ∃ z, z = u_8 := ⟨_, rfl⟩
      try dsimp only at hw_8
      have hP : va_P D vwCl [(mo, .inr (8, [.int 0, .ref sc, .int ss, .int sp, .int ig, .int lf, .ref rd, .ref nw, .ref tr, .ref di, .int ac_7, .ref kp, .ref ik])), (di, .inl (tc 0, 4998, .inl dia_7)), (nw, .inl (tc 0, 357, .inl row_8))] H := hP
      have hD : va_D A [(mo, .inr (8, [.int 0, .ref sc, .int ss, .int sp, .int ig, .int lf, .ref rd, .ref nw, .ref tr, .ref di, .int ac_7, .ref kp, .ref ik])), (di, .inl (tc 0, 4998, .inl dia_7)), (nw, .inl (tc 0, 357, .inl row_8))] := hD
      exact hret _ _ (r_8) (0, ac_7, row_8, dia_7) _ _ (by rw [mX8_drop]; (try dsimp only); rw [hw_1]; (try dsimp only); rw [if_neg c_2]; rw [hw_7]; (try dsimp only); rw [hw_8]; (try dsimp only); (first | done | rfl)) (hP.sub [0, 2, 1] rfl) (hD.sub [0, 2, 1] (by decide) rfl) hS dX8_drop_34
    · exact absurd (by decide) c_6
--# X8_format
noncomputable def mX8_format_S84 (ss : Int32) (sp : Int32) (ig : Int32) (lf : Int32) (row : Nat → Int32) (p0 : Int32) (ac_7 : Int32) (dia_7 : Nat → Int32) (ih_84 : Int32 → (Nat → Int32) → Int32 × Int32 × Int32 × (Nat → Int32) × (Nat → Int32)) (x3h84 : Int32) (rowh84 : Nat → Int32) : Int32 × Int32 × Int32 × (Nat → Int32) × (Nat → Int32) :=
  if 48 ≤ x3h84 then
    (((row (16 : Int32).toNatClampNeg) + (row (17 : Int32).toNatClampNeg)), 0, ac_7, rowh84, dia_7)
  else
    let row_13 := (upd rowh84 ((19 + x3h84) : Int32).toNatClampNeg (-1))
    ih_84 (x3h84 + 1) row_13
noncomputable def mX8_format_L84 (ss : Int32) (sp : Int32) (ig : Int32) (lf : Int32) (row : Nat → Int32) (p0 : Int32) (ac_7 : Int32) (dia_7 : Nat → Int32) (k : Nat) : Int32 → (Nat → Int32) → Int32 × Int32 × Int32 × (Nat → Int32) × (Nat → Int32) := Nat.rec (motive := fun _ => Int32 → (Nat → Int32) → Int32 × Int32 × Int32 × (Nat → Int32) × (Nat → Int32)) (fun x3h84 rowh84 => (0, 0, ac_7, rowh84, dia_7)) (fun _ ih => mX8_format_S84 ss sp ig lf row p0 ac_7 dia_7 ih) k
theorem mX8_format_L84_z (ss : Int32) (sp : Int32) (ig : Int32) (lf : Int32) (row : Nat → Int32) (p0 : Int32) (ac_7 : Int32) (dia_7 : Nat → Int32) (x3h84 : Int32) (rowh84 : Nat → Int32) : mX8_format_L84 ss sp ig lf row p0 ac_7 dia_7 0 x3h84 rowh84 = (0, 0, ac_7, rowh84, dia_7) := rfl
theorem mX8_format_L84_s (ss : Int32) (sp : Int32) (ig : Int32) (lf : Int32) (row : Nat → Int32) (p0 : Int32) (ac_7 : Int32) (dia_7 : Nat → Int32) (k : Nat) (x3h84 : Int32) (rowh84 : Nat → Int32) : mX8_format_L84 ss sp ig lf row p0 ac_7 dia_7 (k + 1) x3h84 rowh84 = mX8_format_S84 ss sp ig lf row p0 ac_7 dia_7 (mX8_format_L84 ss sp ig lf row p0 ac_7 dia_7 k) x3h84 rowh84 := rfl
noncomputable def mX8_format (rf : Int32) (ss : Int32) (sp : Int32) (ig : Int32) (lf : Int32) (ac : Int32) (row : Nat → Int32) (dia : Nat → Int32) (p0 : Int32) : Int32 × Int32 × Int32 × (Nat → Int32) × (Nat → Int32) :=
  let r_1 := mX8_in p0.toInt64 8 48
  if r_1 = 0 then
    (0, 1, ac, row, dia)
  else
    match mX8_remember 0 ss sp ig lf ac row dia with
    | (ac_7, dia_7) =>
      let row_8 := (upd row (6 : Int32).toNatClampNeg ((row (6 : Int32).toNatClampNeg) + ((row (16 : Int32).toNatClampNeg) + (row (17 : Int32).toNatClampNeg))))
      let row_9 := (upd row_8 (16 : Int32).toNatClampNeg 0)
      let row_10 := (upd row_9 (17 : Int32).toNatClampNeg 0)
      let row_11 := (upd row_10 (3 : Int32).toNatClampNeg p0)
      mX8_format_L84 ss sp ig lf row p0 ac_7 dia_7 49 0 row_11
set_option maxRecDepth 20000 in
theorem iX8_format_X8 : ∀ w ∈ wsX80, w ∈ wsX8_format := by decide +kernel
abbrev rmX8_format : Room := { frames := 2, cells := 0, slots := 0, locals := 45 }
set_option maxHeartbeats 4000000 in
set_option maxRecDepth 100000 in
theorem c_X8_format (l : Launch) (D : va_G) (tc : Nat → ClassId) (mo : Nat) (sc : Nat) (rd : Nat) (nw : Nat) (tr : Nat) (di : Nat) (kp : Nat) (ik : Nat) (rf : Int32) (ss : Int32) (sp : Int32) (ig : Int32) (lf : Int32) (ac : Int32) (row : Nat → Int32) (dia : Nat → Int32) (p0 : Int32) (sz : Nat) (hac : 0 ≤ ac.toInt ∧ ac.toInt ≤ 14) : Met l yX8_format wsX8_format rmX8_format (va_Pc [.ref mo, .int p0] (fcB D tc [(mo, .inr (8, [.int rf, .ref sc, .int ss, .int sp, .int ig, .int lf, .ref rd, .ref nw, .ref tr, .ref di, .int ac, .ref kp, .ref ik])), (nw, .inl (tc 0, 357, .inl row)), (di, .inl (tc 0, 4998, .inl dia))] sz)) (va_Qi (fun (r : Int32) (u : Int32 × Int32 × (Nat → Int32) × (Nat → Int32)) => mX8_format rf ss sp ig lf ac row dia p0 = (r, u)) (fun u t => fcO D (va_A [(mo, .inr (8, [.int rf, .ref sc, .int ss, .int sp, .int ig, .int lf, .ref rd, .ref nw, .ref tr, .ref di, .int ac, .ref kp, .ref ik])), (nw, .inl (tc 0, 357, .inl row)), (di, .inl (tc 0, 4998, .inl dia))] sz) ((fun (u : Int32 × Int32 × (Nat → Int32) × (Nat → Int32)) => [(mo, .inr (8, [.int (u.1), .ref sc, .int ss, .int sp, .int ig, .int lf, .ref rd, .ref nw, .ref tr, .ref di, .int (u.2.1), .ref kp, .ref ik])), (nw, .inl (tc 0, 357, .inl (u.2.2.1))), (di, .inl (tc 0, 4998, .inl (u.2.2.2)))]) u) t) (va_A [(mo, .inr (8, [.int rf, .ref sc, .int ss, .int sp, .int ig, .int lf, .ref rd, .ref nw, .ref tr, .ref di, .int ac, .ref kp, .ref ik])), (nw, .inl (tc 0, 357, .inl row)), (di, .inl (tc 0, 4998, .inl dia))] sz)) 0 0 (va_A [(mo, .inr (8, [.int rf, .ref sc, .int ss, .int sp, .int ig, .int lf, .ref rd, .ref nw, .ref tr, .ref di, .int ac, .ref kp, .ref ik])), (nw, .inl (tc 0, 357, .inl row)), (di, .inl (tc 0, 4998, .inl dia))] sz) := by
  refine fc_ofWi (own := RX8) (cc := cX8_format) (maxL := 4) (W1 := (fun (u : Int32 × Int32 × (Nat → Int32) × (Nat → Int32)) => [(mo, .inr (8, [.int (u.1), .ref sc, .int ss, .int sp, .int ig, .int lf, .ref rd, .ref nw, .ref tr, .ref di, .int (u.2.1), .ref kp, .ref ik])), (nw, .inl (tc 0, 357, .inl (u.2.2.1))), (di, .inl (tc 0, 4998, .inl (u.2.2.2)))])) rfl (by decide) rfl (Nat.le_of_ble_eq_true rfl) ?_
  intro p e s m args below meth c A Q hx hb hml hown hts hK hE hP hD hS hA hin hret ls hl
  have hl : lv_has ls 4 [(0, .ref mo), (1, .int p0)] := hl
  refine lv_aload_n hx hb dX8_format_0 rfl (lv_at hl 0 rfl) ?_
  refine lv_iload_n hx hb dX8_format_1 rfl (lv_at hl 1 rfl) ?_
  refine lv_i2l hx hb dX8_format_2 rfl ?_
  refine lv_ldc2 (v := 8) hx hb hown (hts (.constantLong RX8 181 8) (by decide +kernel)) dX8_format_3 ?_
  refine lv_ldc2 (v := 48) hx hb hown (hts (.constantLong RX8 183 48) (by decide +kernel)) dX8_format_6 ?_
  refine fc_goi (isC := []) (isR := [0, 1, 2]) (wc := []) (wr := [(mo, .inr (8, [.int rf, .ref sc, .int ss, .int sp, .int ig, .int lf, .ref rd, .ref nw, .ref tr, .ref di, .int ac, .ref kp, .ref ik])), (nw, .inl (tc 0, 357, .inl row)), (di, .inl (tc 0, 4998, .inl dia))]) hP hD hS hA rfl rfl (by decide) (by decide) (fc_runS (isC := []) (As := [.long p0.toInt64, .long 8, .long 48]) (rest := [.ref mo]) hx hb hml hown hts hK hE hP hD hS hA rfl (by decide) (c_X8_in l D tc p0.toInt64 8 48 _ ) (cwS 3 hts gX8_format_X8_in rfl rfl rfl hd_X8_in ⟨Nat.le_of_ble_eq_true rfl, Nat.le_of_ble_eq_true rfl⟩) rfl hl.1 rfl (Nat.le_of_ble_eq_true rfl) dX8_format_9 ⟨Nat.le_of_ble_eq_true rfl, Nat.le_of_ble_eq_true rfl⟩) (fun r_1 u_1 H locs hw_1 hP hD hS => ?_)
  try dsimp only at hw_1
  have hP : va_P D vwCl [(mo, .inr (8, [.int rf, .ref sc, .int ss, .int sp, .int ig, .int lf, .ref rd, .ref nw, .ref tr, .ref di, .int ac, .ref kp, .ref ik])), (nw, .inl (tc 0, 357, .inl row)), (di, .inl (tc 0, 4998, .inl dia))] H := hP
  have hD : va_D A [(mo, .inr (8, [.int rf, .ref sc, .int ss, .int sp, .int ig, .int lf, .ref rd, .ref nw, .ref tr, .ref di, .int ac, .ref kp, .ref ik])), (nw, .inl (tc 0, 357, .inl row)), (di, .inl (tc 0, 4998, .inl dia))] := hD
  have hi_1 := fx_in3 hw_1 (A := p0.toInt) (B := 8) (C := 48) (Int32.toInt_toInt64 _) (by decide) (by decide)
  refine lv_if_eq (tgt := 19) hx hb dX8_format_12 (by decide) (fun c_2 => ?_) (fun c_2 => ?_)
  · refine lv_iconst (v := 1) hx hb dX8_format_19 (by decide) ?_
    refine fc_goi (isC := [0]) (isR := [1, 2]) (wc := [(mo, .inr (8, [.int rf, .ref sc, .int ss, .int sp, .int ig, .int lf, .ref rd, .ref nw, .ref tr, .ref di, .int ac, .ref kp, .ref ik]))]) (wr := [(nw, .inl (tc 0, 357, .inl row)), (di, .inl (tc 0, 4998, .inl dia))]) hP hD hS hA rfl rfl (by decide) (by decide) (fc_runV (isC := [0]) (As := [.int 1]) (rest := []) hx hb hml hown hts hK hE hP hD hS hA rfl (by decide) (c_X8_refused l D tc mo sc rd nw tr di kp ik rf ss sp ig lf ac 1 _ ) (cwV 1 hts gX8_format_X8_refused rfl rfl rfl hd_X8_refused ⟨Nat.le_of_ble_eq_true rfl, Nat.le_of_ble_eq_true rfl⟩) (ci := 8) rfl rfl rfl rfl hl.1 rfl (Nat.le_of_ble_eq_true rfl) dX8_format_20 ⟨Nat.le_of_ble_eq_true rfl, Nat.le_of_ble_eq_true rfl⟩) (fun r_3 u_3 H locs hw_3 hP hD hS => ?_)
    obtain ⟨rf_3, rfl⟩ : ∃ z, z = u_3 := ⟨_, rfl⟩
    obtain ⟨z1_3, z2_3⟩ := fx_ref1 hw_3
    subst z1_3
    subst z2_3
    have hP : va_P D vwCl [(nw, .inl (tc 0, 357, .inl row)), (di, .inl (tc 0, 4998, .inl dia)), (mo, .inr (8, [.int 1, .ref sc, .int ss, .int sp, .int ig, .int lf, .ref rd, .ref nw, .ref tr, .ref di, .int ac, .ref kp, .ref ik]))] H := hP
    have hD : va_D A [(nw, .inl (tc 0, 357, .inl row)), (di, .inl (tc 0, 4998, .inl dia)), (mo, .inr (8, [.int 1, .ref sc, .int ss, .int sp, .int ig, .int lf, .ref rd, .ref nw, .ref tr, .ref di, .int ac, .ref kp, .ref ik]))] := hD
    refine lv_if_eq (tgt := 28) hx hb dX8_format_23 (by decide) (fun c_4 => ?_) (fun c_4 => ?_)
    · exact absurd c_4 (by decide)
    · refine lv_iconst (v := 0) hx hb dX8_format_26 (by decide) ?_
      exact hret _ _ (0) (1, ac, row, dia) _ _ (by rw [mX8_format]; (try dsimp only); rw [hw_1]; (try dsimp only); rw [if_pos c_2]; (first | done | rfl)) (hP.sub [2, 0, 1] rfl) (hD.sub [2, 0, 1] (by decide) rfl) hS dX8_format_27
  · have hj_1 := hi_1.resolve_left c_2
    refine lv_iconst (v := 0) hx hb dX8_format_15 (by decide) ?_
    refine lv_goto (tgt := 20) hx hb dX8_format_16 (by decide) ?_
    refine fc_goi (isC := [0]) (isR := [1, 2]) (wc := [(mo, .inr (8, [.int rf, .ref sc, .int ss, .int sp, .int ig, .int lf, .ref rd, .ref nw, .ref tr, .ref di, .int ac, .ref kp, .ref ik]))]) (wr := [(nw, .inl (tc 0, 357, .inl row)), (di, .inl (tc 0, 4998, .inl dia))]) hP hD hS hA rfl rfl (by decide) (by decide) (fc_runV (isC := [0]) (As := [.int 0]) (rest := []) hx hb hml hown hts hK hE hP hD hS hA rfl (by decide) (c_X8_refused l D tc mo sc rd nw tr di kp ik rf ss sp ig lf ac 0 _ ) (cwV 1 hts gX8_format_X8_refused rfl rfl rfl hd_X8_refused ⟨Nat.le_of_ble_eq_true rfl, Nat.le_of_ble_eq_true rfl⟩) (ci := 8) rfl rfl rfl rfl hl.1 rfl (Nat.le_of_ble_eq_true rfl) dX8_format_20 ⟨Nat.le_of_ble_eq_true rfl, Nat.le_of_ble_eq_true rfl⟩) (fun r_5 u_5 H locs hw_5 hP hD hS => ?_)
    obtain ⟨rf_5, rfl⟩ : ∃ z, z = u_5 := ⟨_, rfl⟩
    obtain ⟨z1_5, z2_5⟩ := fx_ref0 hw_5
    subst z1_5
    subst z2_5
    have hP : va_P D vwCl [(nw, .inl (tc 0, 357, .inl row)), (di, .inl (tc 0, 4998, .inl dia)), (mo, .inr (8, [.int 0, .ref sc, .int ss, .int sp, .int ig, .int lf, .ref rd, .ref nw, .ref tr, .ref di, .int ac, .ref kp, .ref ik]))] H := hP
    have hD : va_D A [(nw, .inl (tc 0, 357, .inl row)), (di, .inl (tc 0, 4998, .inl dia)), (mo, .inr (8, [.int 0, .ref sc, .int ss, .int sp, .int ig, .int lf, .ref rd, .ref nw, .ref tr, .ref di, .int ac, .ref kp, .ref ik]))] := hD
    refine lv_if_eq (tgt := 28) hx hb dX8_format_23 (by decide) (fun c_6 => ?_) (fun c_6 => ?_)
    · refine lv_aload_n hx hb dX8_format_28 rfl (lv_at hl 0 rfl) ?_
      refine fc_gov (isC := [2, 0, 1]) (isR := []) (wc := [(mo, .inr (8, [.int 0, .ref sc, .int ss, .int sp, .int ig, .int lf, .ref rd, .ref nw, .ref tr, .ref di, .int ac, .ref kp, .ref ik])), (nw, .inl (tc 0, 357, .inl row)), (di, .inl (tc 0, 4998, .inl dia))]) (wr := []) hP hD hS hA rfl rfl (by decide) (by decide) (fc_runV (isC := [2, 0, 1]) (As := []) (rest := []) hx hb hml hown hts hK hE hP hD hS hA rfl (by decide) (c_X8_remember l D tc mo sc rd nw tr di kp ik 0 ss sp ig lf ac row dia _ (by have l_0 : (0 : Int32).toInt = 0 := (by decide); have l_1 : (1 : Int32).toInt = 1 := (by decide); have l_2 : (2 : Int32).toInt = 2 := (by decide); have l_3 : (3 : Int32).toInt = 3 := (by decide); have l_4 : (4 : Int32).toInt = 4 := (by decide); have l_48 : (48 : Int32).toInt = 48 := (by decide); have l_8 : (8 : Int32).toInt = 8 := (by decide); have qc_2 := c_2; (try simp only [fc_le, fc_lt, fc_eq] at qc_2); have qhj_1 := hj_1; (try simp only [fc_le, fc_lt, fc_eq] at qhj_1); (try simp only [fc_le, fc_lt, fc_eq]); omega)) (cwV 0 hts gX8_format_X8_remember rfl rfl rfl hd_X8_remember ⟨Nat.le_of_ble_eq_true rfl, Nat.le_of_ble_eq_true rfl⟩) (ci := 8) rfl rfl rfl rfl hl.1 rfl (Nat.le_of_ble_eq_true rfl) dX8_format_29 ⟨Nat.le_of_ble_eq_true rfl, Nat.le_of_ble_eq_true rfl⟩) (fun u_7 H locs hw_7 hP hD hS => ?_)
      obtain ⟨ac_7, dia_7⟩ := u_7
      try dsimp only at hw_7
      have hP : va_P D vwCl [(mo, .inr (8, [.int 0, .ref sc, .int ss, .int sp, .int ig, .int lf, .ref rd, .ref nw, .ref tr, .ref di, .int ac_7, .ref kp, .ref ik])), (nw, .inl (tc 0, 357, .inl row)), (di, .inl (tc 0, 4998, .inl dia_7))] H := hP
      have hD : va_D A [(mo, .inr (8, [.int 0, .ref sc, .int ss, .int sp, .int ig, .int lf, .ref rd, .ref nw, .ref tr, .ref di, .int ac_7, .ref kp, .ref ik])), (nw, .inl (tc 0, 357, .inl row)), (di, .inl (tc 0, 4998, .inl dia_7))] := hD
      refine lv_aload_n hx hb dX8_format_32 rfl (lv_at hl 0 rfl) ?_
      refine va_get (D := D) (ci := 8) (v := .ref nw) (C := RX8) (T := TX8) (N := 13) hx hb hts iX8_format_X8 hown hK hP 0 rfl rfl 7 (by decide) (hts (.fieldLink RX8 16 "FrameCardModel" "now" "[I") (by decide +kernel)) (fun _ h9 => h9) rfl dX8_format_33 ?_
      refine lv_bipush (v := 16) hx hb dX8_format_36 (by decide) ?_
      refine va_iald (D := D) hx hb hK hP 1 0 rfl rfl (vp_in_iff.mpr (by decide)) dX8_format_38 ?_
      refine lv_aload_n hx hb dX8_format_39 rfl (lv_at hl 0 rfl) ?_
      refine va_get (D := D) (ci := 8) (v := .ref nw) (C := RX8) (T := TX8) (N := 13) hx hb hts iX8_format_X8 hown hK hP 0 rfl rfl 7 (by decide) (hts (.fieldLink RX8 16 "FrameCardModel" "now" "[I") (by decide +kernel)) (fun _ h9 => h9) rfl dX8_format_40 ?_
      refine lv_bipush (v := 17) hx hb dX8_format_43 (by decide) ?_
      refine va_iald (D := D) hx hb hK hP 1 0 rfl rfl (vp_in_iff.mpr (by decide)) dX8_format_45 ?_
      refine lv_iadd hx hb dX8_format_46 ?_
      refine lv_istore_n (lv' := [(2, .int ((row (16 : Int32).toNatClampNeg) + (row (17 : Int32).toNatClampNeg))), (0, .ref mo), (1, .int p0)]) hx hb dX8_format_47 rfl hl (by decide) rfl (fun ls hl => ?_)
      refine lv_aload_n hx hb dX8_format_48 rfl (lv_at hl 1 rfl) ?_
      refine va_get (D := D) (ci := 8) (v := .ref nw) (C := RX8) (T := TX8) (N := 13) hx hb hts iX8_format_X8 hown hK hP 0 rfl rfl 7 (by decide) (hts (.fieldLink RX8 16 "FrameCardModel" "now" "[I") (by decide +kernel)) (fun _ h9 => h9) rfl dX8_format_49 ?_
      refine lv_bipush (v := 6) hx hb dX8_format_52 (by decide) ?_
      refine lv_dup2_11 hx hb dX8_format_54 rfl rfl ?_
      refine va_iald (D := D) hx hb hK hP 1 0 rfl rfl (vp_in_iff.mpr (by decide)) dX8_format_55 ?_
      refine lv_iload_n hx hb dX8_format_56 rfl (lv_at hl 0 rfl) ?_
      refine lv_iadd hx hb dX8_format_57 ?_
      refine va_iast (D := D) hx hb hK hP hD hS 1 0 rfl rfl (vp_in_iff.mpr (by decide)) dX8_format_58 (fun H locs hP hD hS => ?_)
      have hP : va_P D vwCl [(mo, .inr (8, [.int 0, .ref sc, .int ss, .int sp, .int ig, .int lf, .ref rd, .ref nw, .ref tr, .ref di, .int ac_7, .ref kp, .ref ik])), (nw, .inl (tc 0, 357, .inl (upd row (6 : Int32).toNatClampNeg ((row (6 : Int32).toNatClampNeg) + ((row (16 : Int32).toNatClampNeg) + (row (17 : Int32).toNatClampNeg)))))), (di, .inl (tc 0, 4998, .inl dia_7))] H := hP
      have hD : va_D A [(mo, .inr (8, [.int 0, .ref sc, .int ss, .int sp, .int ig, .int lf, .ref rd, .ref nw, .ref tr, .ref di, .int ac_7, .ref kp, .ref ik])), (nw, .inl (tc 0, 357, .inl (upd row (6 : Int32).toNatClampNeg ((row (6 : Int32).toNatClampNeg) + ((row (16 : Int32).toNatClampNeg) + (row (17 : Int32).toNatClampNeg)))))), (di, .inl (tc 0, 4998, .inl dia_7))] := hD
      obtain ⟨row_8, hw_8⟩ : ∃ z, (upd row (6 : Int32).toNatClampNeg ((row (6 : Int32).toNatClampNeg) + ((row (16 : Int32).toNatClampNeg) + (row (17 : Int32).toNatClampNeg)))) = z := ⟨_, rfl⟩
      rw [hw_8] at hP hD
      refine lv_aload_n hx hb dX8_format_59 rfl (lv_at hl 1 rfl) ?_
      refine va_get (D := D) (ci := 8) (v := .ref nw) (C := RX8) (T := TX8) (N := 13) hx hb hts iX8_format_X8 hown hK hP 0 rfl rfl 7 (by decide) (hts (.fieldLink RX8 16 "FrameCardModel" "now" "[I") (by decide +kernel)) (fun _ h9 => h9) rfl dX8_format_60 ?_
      refine lv_bipush (v := 16) hx hb dX8_format_63 (by decide) ?_
      refine lv_iconst (v := 0) hx hb dX8_format_65 (by decide) ?_
      refine va_iast (D := D) hx hb hK hP hD hS 1 0 rfl rfl (vp_in_iff.mpr (by decide)) dX8_format_66 (fun H locs hP hD hS => ?_)
      have hP : va_P D vwCl [(mo, .inr (8, [.int 0, .ref sc, .int ss, .int sp, .int ig, .int lf, .ref rd, .ref nw, .ref tr, .ref di, .int ac_7, .ref kp, .ref ik])), (nw, .inl (tc 0, 357, .inl (upd row_8 (16 : Int32).toNatClampNeg 0))), (di, .inl (tc 0, 4998, .inl dia_7))] H := hP
      have hD : va_D A [(mo, .inr (8, [.int 0, .ref sc, .int ss, .int sp, .int ig, .int lf, .ref rd, .ref nw, .ref tr, .ref di, .int ac_7, .ref kp, .ref ik])), (nw, .inl (tc 0, 357, .inl (upd row_8 (16 : Int32).toNatClampNeg 0))), (di, .inl (tc 0, 4998, .inl dia_7))] := hD
      obtain ⟨row_9, hw_9⟩ : ∃ z, (upd row_8 (16 : Int32).toNatClampNeg 0) = z := ⟨_, rfl⟩
      rw [hw_9] at hP hD
      refine lv_aload_n hx hb dX8_format_67 rfl (lv_at hl 1 rfl) ?_
      refine va_get (D := D) (ci := 8) (v := .ref nw) (C := RX8) (T := TX8) (N := 13) hx hb hts iX8_format_X8 hown hK hP 0 rfl rfl 7 (by decide) (hts (.fieldLink RX8 16 "FrameCardModel" "now" "[I") (by decide +kernel)) (fun _ h9 => h9) rfl dX8_format_68 ?_
      refine lv_bipush (v := 17) hx hb dX8_format_71 (by decide) ?_
      refine lv_iconst (v := 0) hx hb dX8_format_73 (by decide) ?_
      refine va_iast (D := D) hx hb hK hP hD hS 1 0 rfl rfl (vp_in_iff.mpr (by decide)) dX8_format_74 (fun H locs hP hD hS => ?_)
      have hP : va_P D vwCl [(mo, .inr (8, [.int 0, .ref sc, .int ss, .int sp, .int ig, .int lf, .ref rd, .ref nw, .ref tr, .ref di, .int ac_7, .ref kp, .ref ik])), (nw, .inl (tc 0, 357, .inl (upd row_9 (17 : Int32).toNatClampNeg 0))), (di, .inl (tc 0, 4998, .inl dia_7))] H := hP
      have hD : va_D A [(mo, .inr (8, [.int 0, .ref sc, .int ss, .int sp, .int ig, .int lf, .ref rd, .ref nw, .ref tr, .ref di, .int ac_7, .ref kp, .ref ik])), (nw, .inl (tc 0, 357, .inl (upd row_9 (17 : Int32).toNatClampNeg 0))), (di, .inl (tc 0, 4998, .inl dia_7))] := hD
      obtain ⟨row_10, hw_10⟩ : ∃ z, (upd row_9 (17 : Int32).toNatClampNeg 0) = z := ⟨_, rfl⟩
      rw [hw_10] at hP hD
      refine lv_aload_n hx hb dX8_format_75 rfl (lv_at hl 1 rfl) ?_
      refine va_get (D := D) (ci := 8) (v := .ref nw) (C := RX8) (T := TX8) (N := 13) hx hb hts iX8_format_X8 hown hK hP 0 rfl rfl 7 (by decide) (hts (.fieldLink RX8 16 "FrameCardModel" "now" "[I") (by decide +kernel)) (fun _ h9 => h9) rfl dX8_format_76 ?_
      refine lv_iconst (v := 3) hx hb dX8_format_79 (by decide) ?_
      refine lv_iload_n hx hb dX8_format_80 rfl (lv_at hl 2 rfl) ?_
      refine va_iast (D := D) hx hb hK hP hD hS 1 0 rfl rfl (vp_in_iff.mpr (by decide)) dX8_format_81 (fun H locs hP hD hS => ?_)
      have hP : va_P D vwCl [(mo, .inr (8, [.int 0, .ref sc, .int ss, .int sp, .int ig, .int lf, .ref rd, .ref nw, .ref tr, .ref di, .int ac_7, .ref kp, .ref ik])), (nw, .inl (tc 0, 357, .inl (upd row_10 (3 : Int32).toNatClampNeg p0))), (di, .inl (tc 0, 4998, .inl dia_7))] H := hP
      have hD : va_D A [(mo, .inr (8, [.int 0, .ref sc, .int ss, .int sp, .int ig, .int lf, .ref rd, .ref nw, .ref tr, .ref di, .int ac_7, .ref kp, .ref ik])), (nw, .inl (tc 0, 357, .inl (upd row_10 (3 : Int32).toNatClampNeg p0))), (di, .inl (tc 0, 4998, .inl dia_7))] := hD
      obtain ⟨row_11, hw_11⟩ : ∃ z, (upd row_10 (3 : Int32).toNatClampNeg p0) = z := ⟨_, rfl⟩
      rw [hw_11] at hP hD
      refine lv_iconst (v := 0) hx hb dX8_format_82 (by decide) ?_
      refine lv_istore_n (lv' := [(3, .int 0), (2, .int ((row (16 : Int32).toNatClampNeg) + (row (17 : Int32).toNatClampNeg))), (0, .ref mo), (1, .int p0)]) hx hb dX8_format_83 rfl hl (by decide) rfl (fun ls hl => ?_)
      have loop_84 : ∀ (k_84 : Nat) (i_84 : Nat) (x3h84 : Int32) (rowh84 : Nat → Int32) (hb_84 : x3h84 = nI i_84) (hm_84 : i_84 ≤ 48 ∧ 48 < i_84 + k_84) (hI_84 : mX8_format rf ss sp ig lf ac row dia p0 = mX8_format_L84 ss sp ig lf row p0 ac_7 dia_7 k_84 x3h84 rowh84) (H : Heap) (locs : List Loc), va_P D vwCl [(mo, .inr (8, [.int 0, .ref sc, .int ss, .int sp, .int ig, .int lf, .ref rd, .ref nw, .ref tr, .ref di, .int ac_7, .ref kp, .ref ik])), (nw, .inl (tc 0, 357, .inl rowh84)), (di, .inl (tc 0, 4998, .inl dia_7))] H → va_D A [(mo, .inr (8, [.int 0, .ref sc, .int ss, .int sp, .int ig, .int lf, .ref rd, .ref nw, .ref tr, .ref di, .int ac_7, .ref kp, .ref ik])), (nw, .inl (tc 0, 357, .inl rowh84)), (di, .inl (tc 0, 4998, .inl dia_7))] → va_S A s.heap H locs → ∀ ls : Array Slot, lv_has ls 4 [(3, .int x3h84), (2, .int ((row (16 : Int32).toNatClampNeg) + (row (17 : Int32).toNatClampNeg))), (0, .ref mo), (1, .int p0)] → W p l e rmX8_format s m args below meth c H locs 0 0 Q (F0 m 84 ls []) := by
        intro k_84
        induction k_84 with
        | zero =>
          intro i_84 x3h84 rowh84 hb_84 hm_84 hI_84 H locs hP hD hS ls hl
          exact absurd hm_84 (by omega)
        | succ k_84 ih_84 =>
          intro i_84 x3h84 rowh84 hb_84 hm_84 hI_84 H locs hP hD hS ls hl
          have zz_84 := fc_nI (n := i_84) (by omega)
          rw [← hb_84] at zz_84
          refine lv_iload_n hx hb dX8_format_84 rfl (lv_at hl 0 rfl) ?_
          refine lv_bipush (v := 48) hx hb dX8_format_85 (by decide) ?_
          refine lv_icmp_ge (tgt := 106) hx hb dX8_format_87 (by decide) (fun c_12 => ?_) (fun c_12 => ?_)
          · refine lv_iload_n hx hb dX8_format_106 rfl (lv_at hl 1 rfl) ?_
            exact hret _ _ ((row (16 : Int32).toNatClampNeg) + (row (17 : Int32).toNatClampNeg)) (0, ac_7, rowh84, dia_7) _ _ (by rw [hI_84, mX8_format_L84_s, mX8_format_S84]; (try dsimp only); rw [if_pos c_12]; (first | done | rfl)) (hP.sub [0, 1, 2] rfl) (hD.sub [0, 1, 2] (by decide) rfl) hS dX8_format_107
          · refine lv_aload_n hx hb dX8_format_90 rfl (lv_at hl 2 rfl) ?_
            refine va_get (D := D) (ci := 8) (v := .ref nw) (C := RX8) (T := TX8) (N := 13) hx hb hts iX8_format_X8 hown hK hP 0 rfl rfl 7 (by decide) (hts (.fieldLink RX8 16 "FrameCardModel" "now" "[I") (by decide +kernel)) (fun _ h9 => h9) rfl dX8_format_91 ?_
            refine lv_bipush (v := 19) hx hb dX8_format_94 (by decide) ?_
            refine lv_iload_n hx hb dX8_format_96 rfl (lv_at hl 0 rfl) ?_
            refine lv_iadd hx hb dX8_format_97 ?_
            refine lv_iconst (v := (-1)) hx hb dX8_format_98 (by decide) ?_
            refine va_iast (D := D) hx hb hK hP hD hS 1 0 rfl rfl (by have l_0 : (0 : Int32).toInt = 0 := (by decide); have l_1 : (1 : Int32).toInt = 1 := (by decide); have l_19 : (19 : Int32).toInt = 19 := (by decide); have l_2 : (2 : Int32).toInt = 2 := (by decide); have l_3 : (3 : Int32).toInt = 3 := (by decide); have l_4 : (4 : Int32).toInt = 4 := (by decide); have l_48 : (48 : Int32).toInt = 48 := (by decide); have qc_12 := c_12; (try simp only [fc_le, fc_lt, fc_eq] at qc_12); have a_1 := fc_kadd (x := x3h84) (k := 19) (n := 19) (by decide) (by omega) (by omega); rw [vp_in_iff]; omega) dX8_format_99 (fun H locs hP hD hS => ?_)
            have hP : va_P D vwCl [(mo, .inr (8, [.int 0, .ref sc, .int ss, .int sp, .int ig, .int lf, .ref rd, .ref nw, .ref tr, .ref di, .int ac_7, .ref kp, .ref ik])), (nw, .inl (tc 0, 357, .inl (upd rowh84 ((19 + x3h84) : Int32).toNatClampNeg (-1)))), (di, .inl (tc 0, 4998, .inl dia_7))] H := hP
            have hD : va_D A [(mo, .inr (8, [.int 0, .ref sc, .int ss, .int sp, .int ig, .int lf, .ref rd, .ref nw, .ref tr, .ref di, .int ac_7, .ref kp, .ref ik])), (nw, .inl (tc 0, 357, .inl (upd rowh84 ((19 + x3h84) : Int32).toNatClampNeg (-1)))), (di, .inl (tc 0, 4998, .inl dia_7))] := hD
            obtain ⟨row_13, hw_13⟩ : ∃ z, (upd rowh84 ((19 + x3h84) : Int32).toNatClampNeg (-1)) = z := ⟨_, rfl⟩
            rw [hw_13] at hP hD
            refine lv_iinc (v := (x3h84 + 1)) (lv' := [(3, .int (x3h84 + 1)), (2, .int ((row (16 : Int32).toNatClampNeg) + (row (17 : Int32).toNatClampNeg))), (0, .ref mo), (1, .int p0)]) hx hb dX8_format_100 hl (k := 0) rfl rfl (by decide) rfl (fun ls hl => ?_)
            refine lv_goto (tgt := 84) hx hb dX8_format_103 (by decide) ?_
            exact ih_84 (i_84 + 1) (x3h84 + 1) row_13 (by rw [hb_84]; exact nI_1 _) (by have l_0 : (0 : Int32).toInt = 0 := (by decide); have l_1 : (1 : Int32).toInt = 1 := (by decide); have l_2 : (2 : Int32).toInt = 2 := (by decide); have l_3 : (3 : Int32).toInt = 3 := (by decide); have l_4 : (4 : Int32).toInt = 4 := (by decide); have l_48 : (48 : Int32).toInt = 48 := (by decide); have qc_12 := c_12; (try simp only [fc_le, fc_lt, fc_eq] at qc_12); skip; omega) (by rw [hI_84, mX8_format_L84_s, mX8_format_S84]; (try dsimp only); rw [if_neg c_12]; rw [hw_13]; (try dsimp only); (first | done | rfl)) _ _ (hP.sub [0, 1, 2] rfl) (hD.sub [0, 1, 2] (by decide) rfl) hS ls (lv_sub hl [0, 1, 2, 3] rfl)
      exact loop_84 49 0 0 row_11 nI_0.symm (by omega) (by rw [mX8_format]; (try dsimp only); rw [hw_1]; (try dsimp only); rw [if_neg c_2]; rw [hw_7]; (try dsimp only); rw [hw_8]; (try dsimp only); rw [hw_9]; (try dsimp only); rw [hw_10]; (try dsimp only); rw [hw_11]; (try dsimp only); (first | done | rfl)) _ _ (hP.sub [0, 1, 2] rfl) (hD.sub [0, 1, 2] (by decide) rfl) hS ls (lv_sub hl [0, 1, 2, 3] rfl)
    · exact absurd (by decide) c_6
--# X8_set
theorem hd_X8_isSetting : yX8_isSetting.cls = RX8 ∧ yX8_isSetting.cls ≠ "java/lang/invoke/MethodHandle" ∧ yX8_isSetting.cls ≠ "java/lang/invoke/VarHandle" ∧ (parseMethodDescriptor yX8_isSetting.desc).map (fun d => d.parameters.length) = some 2 := by decide +kernel
theorem hd_X8_isSettingn : yX8_isSetting.cls ≠ "java/lang/invoke/MethodHandle" ∧ yX8_isSetting.cls ≠ "java/lang/invoke/VarHandle" ∧ (parseMethodDescriptor yX8_isSetting.desc).map (fun d => d.parameters.length) = some 2 := by decide +kernel
noncomputable def mX8_set (rf : Int32) (ss : Int32) (sp : Int32) (ig : Int32) (lf : Int32) (ac : Int32) (row : Nat → Int32) (dia : Nat → Int32) (p0 : Int32) (p1 : Int32) : Int32 × Int32 × Int32 × (Nat → Int32) × (Nat → Int32) :=
  let r_1 := mX8_isSetting p0 p1
  if r_1 = 0 then
    (0, 1, ac, row, dia)
  else
    match mX8_remember 0 ss sp ig lf ac row dia with
    | (ac_7, dia_7) =>
      let row_8 := (upd row p0.toNatClampNeg p1)
      ((row p0.toNatClampNeg), 0, ac_7, row_8, dia_7)
set_option maxRecDepth 20000 in
theorem iX8_set_X8 : ∀ w ∈ wsX80, w ∈ wsX8_set := by decide +kernel
abbrev rmX8_set : Room := { frames := 2, cells := 0, slots := 0, locals := 46 }
set_option maxHeartbeats 4000000 in
set_option maxRecDepth 100000 in
theorem c_X8_set (l : Launch) (D : va_G) (tc : Nat → ClassId) (mo : Nat) (sc : Nat) (rd : Nat) (nw : Nat) (tr : Nat) (di : Nat) (kp : Nat) (ik : Nat) (rf : Int32) (ss : Int32) (sp : Int32) (ig : Int32) (lf : Int32) (ac : Int32) (row : Nat → Int32) (dia : Nat → Int32) (p0 : Int32) (p1 : Int32) (sz : Nat) (hac : 0 ≤ ac.toInt ∧ ac.toInt ≤ 14) : Met l yX8_set wsX8_set rmX8_set (va_Pc [.ref mo, .int p0, .int p1] (fcB D tc [(mo, .inr (8, [.int rf, .ref sc, .int ss, .int sp, .int ig, .int lf, .ref rd, .ref nw, .ref tr, .ref di, .int ac, .ref kp, .ref ik])), (nw, .inl (tc 0, 357, .inl row)), (di, .inl (tc 0, 4998, .inl dia))] sz)) (va_Qi (fun (r : Int32) (u : Int32 × Int32 × (Nat → Int32) × (Nat → Int32)) => mX8_set rf ss sp ig lf ac row dia p0 p1 = (r, u)) (fun u t => fcO D (va_A [(mo, .inr (8, [.int rf, .ref sc, .int ss, .int sp, .int ig, .int lf, .ref rd, .ref nw, .ref tr, .ref di, .int ac, .ref kp, .ref ik])), (nw, .inl (tc 0, 357, .inl row)), (di, .inl (tc 0, 4998, .inl dia))] sz) ((fun (u : Int32 × Int32 × (Nat → Int32) × (Nat → Int32)) => [(mo, .inr (8, [.int (u.1), .ref sc, .int ss, .int sp, .int ig, .int lf, .ref rd, .ref nw, .ref tr, .ref di, .int (u.2.1), .ref kp, .ref ik])), (nw, .inl (tc 0, 357, .inl (u.2.2.1))), (di, .inl (tc 0, 4998, .inl (u.2.2.2)))]) u) t) (va_A [(mo, .inr (8, [.int rf, .ref sc, .int ss, .int sp, .int ig, .int lf, .ref rd, .ref nw, .ref tr, .ref di, .int ac, .ref kp, .ref ik])), (nw, .inl (tc 0, 357, .inl row)), (di, .inl (tc 0, 4998, .inl dia))] sz)) 0 0 (va_A [(mo, .inr (8, [.int rf, .ref sc, .int ss, .int sp, .int ig, .int lf, .ref rd, .ref nw, .ref tr, .ref di, .int ac, .ref kp, .ref ik])), (nw, .inl (tc 0, 357, .inl row)), (di, .inl (tc 0, 4998, .inl dia))] sz) := by
  refine fc_ofWi (own := RX8) (cc := cX8_set) (maxL := 4) (W1 := (fun (u : Int32 × Int32 × (Nat → Int32) × (Nat → Int32)) => [(mo, .inr (8, [.int (u.1), .ref sc, .int ss, .int sp, .int ig, .int lf, .ref rd, .ref nw, .ref tr, .ref di, .int (u.2.1), .ref kp, .ref ik])), (nw, .inl (tc 0, 357, .inl (u.2.2.1))), (di, .inl (tc 0, 4998, .inl (u.2.2.2)))])) rfl (by decide) rfl (Nat.le_of_ble_eq_true rfl) ?_
  intro p e s m args below meth c A Q hx hb hml hown hts hK hE hP hD hS hA hin hret ls hl
  have hl : lv_has ls 4 [(0, .ref mo), (1, .int p0), (2, .int p1)] := hl
  refine lv_aload_n hx hb dX8_set_0 rfl (lv_at hl 0 rfl) ?_
  refine lv_iload_n hx hb dX8_set_1 rfl (lv_at hl 1 rfl) ?_
  refine lv_iload_n hx hb dX8_set_2 rfl (lv_at hl 2 rfl) ?_
  refine fc_goi (isC := []) (isR := [0, 1, 2]) (wc := []) (wr := [(mo, .inr (8, [.int rf, .ref sc, .int ss, .int sp, .int ig, .int lf, .ref rd, .ref nw, .ref tr, .ref di, .int ac, .ref kp, .ref ik])), (nw, .inl (tc 0, 357, .inl row)), (di, .inl (tc 0, 4998, .inl dia))]) hP hD hS hA rfl rfl (by decide) (by decide) (fc_runS (isC := []) (As := [.int p0, .int p1]) (rest := [.ref mo]) hx hb hml hown hts hK hE hP hD hS hA rfl (by decide) (c_X8_isSetting l D tc p0 p1 _ ) (cwS 2 hts gX8_set_X8_isSetting rfl rfl rfl hd_X8_isSetting ⟨Nat.le_of_ble_eq_true rfl, Nat.le_of_ble_eq_true rfl⟩) rfl hl.1 rfl (Nat.le_of_ble_eq_true rfl) dX8_set_3 ⟨Nat.le_of_ble_eq_true rfl, Nat.le_of_ble_eq_true rfl⟩) (fun r_1 u_1 H locs hw_1 hP hD hS => ?_)
  try dsimp only at hw_1
  have hP : va_P D vwCl [(mo, .inr (8, [.int rf, .ref sc, .int ss, .int sp, .int ig, .int lf, .ref rd, .ref nw, .ref tr, .ref di, .int ac, .ref kp, .ref ik])), (nw, .inl (tc 0, 357, .inl row)), (di, .inl (tc 0, 4998, .inl dia))] H := hP
  have hD : va_D A [(mo, .inr (8, [.int rf, .ref sc, .int ss, .int sp, .int ig, .int lf, .ref rd, .ref nw, .ref tr, .ref di, .int ac, .ref kp, .ref ik])), (nw, .inl (tc 0, 357, .inl row)), (di, .inl (tc 0, 4998, .inl dia))] := hD
  have hi_1 := fx_isSet8 hw_1
  refine lv_if_eq (tgt := 13) hx hb dX8_set_6 (by decide) (fun c_2 => ?_) (fun c_2 => ?_)
  · refine lv_iconst (v := 1) hx hb dX8_set_13 (by decide) ?_
    refine fc_goi (isC := [0]) (isR := [1, 2]) (wc := [(mo, .inr (8, [.int rf, .ref sc, .int ss, .int sp, .int ig, .int lf, .ref rd, .ref nw, .ref tr, .ref di, .int ac, .ref kp, .ref ik]))]) (wr := [(nw, .inl (tc 0, 357, .inl row)), (di, .inl (tc 0, 4998, .inl dia))]) hP hD hS hA rfl rfl (by decide) (by decide) (fc_runV (isC := [0]) (As := [.int 1]) (rest := []) hx hb hml hown hts hK hE hP hD hS hA rfl (by decide) (c_X8_refused l D tc mo sc rd nw tr di kp ik rf ss sp ig lf ac 1 _ ) (cwV 1 hts gX8_set_X8_refused rfl rfl rfl hd_X8_refused ⟨Nat.le_of_ble_eq_true rfl, Nat.le_of_ble_eq_true rfl⟩) (ci := 8) rfl rfl rfl rfl hl.1 rfl (Nat.le_of_ble_eq_true rfl) dX8_set_14 ⟨Nat.le_of_ble_eq_true rfl, Nat.le_of_ble_eq_true rfl⟩) (fun r_3 u_3 H locs hw_3 hP hD hS => ?_)
    obtain ⟨rf_3, rfl⟩ : ∃ z, z = u_3 := ⟨_, rfl⟩
    obtain ⟨z1_3, z2_3⟩ := fx_ref1 hw_3
    subst z1_3
    subst z2_3
    have hP : va_P D vwCl [(nw, .inl (tc 0, 357, .inl row)), (di, .inl (tc 0, 4998, .inl dia)), (mo, .inr (8, [.int 1, .ref sc, .int ss, .int sp, .int ig, .int lf, .ref rd, .ref nw, .ref tr, .ref di, .int ac, .ref kp, .ref ik]))] H := hP
    have hD : va_D A [(nw, .inl (tc 0, 357, .inl row)), (di, .inl (tc 0, 4998, .inl dia)), (mo, .inr (8, [.int 1, .ref sc, .int ss, .int sp, .int ig, .int lf, .ref rd, .ref nw, .ref tr, .ref di, .int ac, .ref kp, .ref ik]))] := hD
    refine lv_if_eq (tgt := 22) hx hb dX8_set_17 (by decide) (fun c_4 => ?_) (fun c_4 => ?_)
    · exact absurd c_4 (by decide)
    · refine lv_iconst (v := 0) hx hb dX8_set_20 (by decide) ?_
      exact hret _ _ (0) (1, ac, row, dia) _ _ (by rw [mX8_set]; (try dsimp only); rw [hw_1]; (try dsimp only); rw [if_pos c_2]; (first | done | rfl)) (hP.sub [2, 0, 1] rfl) (hD.sub [2, 0, 1] (by decide) rfl) hS dX8_set_21
  · have hj_1 := hi_1.resolve_left c_2
    refine lv_iconst (v := 0) hx hb dX8_set_9 (by decide) ?_
    refine lv_goto (tgt := 14) hx hb dX8_set_10 (by decide) ?_
    refine fc_goi (isC := [0]) (isR := [1, 2]) (wc := [(mo, .inr (8, [.int rf, .ref sc, .int ss, .int sp, .int ig, .int lf, .ref rd, .ref nw, .ref tr, .ref di, .int ac, .ref kp, .ref ik]))]) (wr := [(nw, .inl (tc 0, 357, .inl row)), (di, .inl (tc 0, 4998, .inl dia))]) hP hD hS hA rfl rfl (by decide) (by decide) (fc_runV (isC := [0]) (As := [.int 0]) (rest := []) hx hb hml hown hts hK hE hP hD hS hA rfl (by decide) (c_X8_refused l D tc mo sc rd nw tr di kp ik rf ss sp ig lf ac 0 _ ) (cwV 1 hts gX8_set_X8_refused rfl rfl rfl hd_X8_refused ⟨Nat.le_of_ble_eq_true rfl, Nat.le_of_ble_eq_true rfl⟩) (ci := 8) rfl rfl rfl rfl hl.1 rfl (Nat.le_of_ble_eq_true rfl) dX8_set_14 ⟨Nat.le_of_ble_eq_true rfl, Nat.le_of_ble_eq_true rfl⟩) (fun r_5 u_5 H locs hw_5 hP hD hS => ?_)
    obtain ⟨rf_5, rfl⟩ : ∃ z, z = u_5 := ⟨_, rfl⟩
    obtain ⟨z1_5, z2_5⟩ := fx_ref0 hw_5
    subst z1_5
    subst z2_5
    have hP : va_P D vwCl [(nw, .inl (tc 0, 357, .inl row)), (di, .inl (tc 0, 4998, .inl dia)), (mo, .inr (8, [.int 0, .ref sc, .int ss, .int sp, .int ig, .int lf, .ref rd, .ref nw, .ref tr, .ref di, .int ac, .ref kp, .ref ik]))] H := hP
    have hD : va_D A [(nw, .inl (tc 0, 357, .inl row)), (di, .inl (tc 0, 4998, .inl dia)), (mo, .inr (8, [.int 0, .ref sc, .int ss, .int sp, .int ig, .int lf, .ref rd, .ref nw, .ref tr, .ref di, .int ac, .ref kp, .ref ik]))] := hD
    refine lv_if_eq (tgt := 22) hx hb dX8_set_17 (by decide) (fun c_6 => ?_) (fun c_6 => ?_)
    · refine lv_aload_n hx hb dX8_set_22 rfl (lv_at hl 0 rfl) ?_
      refine fc_gov (isC := [2, 0, 1]) (isR := []) (wc := [(mo, .inr (8, [.int 0, .ref sc, .int ss, .int sp, .int ig, .int lf, .ref rd, .ref nw, .ref tr, .ref di, .int ac, .ref kp, .ref ik])), (nw, .inl (tc 0, 357, .inl row)), (di, .inl (tc 0, 4998, .inl dia))]) (wr := []) hP hD hS hA rfl rfl (by decide) (by decide) (fc_runV (isC := [2, 0, 1]) (As := []) (rest := []) hx hb hml hown hts hK hE hP hD hS hA rfl (by decide) (c_X8_remember l D tc mo sc rd nw tr di kp ik 0 ss sp ig lf ac row dia _ (by have l_0 : (0 : Int32).toInt = 0 := (by decide); have l_1 : (1 : Int32).toInt = 1 := (by decide); have l_2 : (2 : Int32).toInt = 2 := (by decide); have l_3 : (3 : Int32).toInt = 3 := (by decide); have l_4 : (4 : Int32).toInt = 4 := (by decide); have qc_2 := c_2; (try simp only [fc_le, fc_lt, fc_eq] at qc_2); have qhj_1 := hj_1; (try simp only [fc_le, fc_lt, fc_eq] at qhj_1); (try simp only [fc_le, fc_lt, fc_eq]); omega)) (cwV 0 hts gX8_set_X8_remember rfl rfl rfl hd_X8_remember ⟨Nat.le_of_ble_eq_true rfl, Nat.le_of_ble_eq_true rfl⟩) (ci := 8) rfl rfl rfl rfl hl.1 rfl (Nat.le_of_ble_eq_true rfl) dX8_set_23 ⟨Nat.le_of_ble_eq_true rfl, Nat.le_of_ble_eq_true rfl⟩) (fun u_7 H locs hw_7 hP hD hS => ?_)
      obtain ⟨ac_7, dia_7⟩ := u_7
      try dsimp only at hw_7
      have hP : va_P D vwCl [(mo, .inr (8, [.int 0, .ref sc, .int ss, .int sp, .int ig, .int lf, .ref rd, .ref nw, .ref tr, .ref di, .int ac_7, .ref kp, .ref ik])), (nw, .inl (tc 0, 357, .inl row)), (di, .inl (tc 0, 4998, .inl dia_7))] H := hP
      have hD : va_D A [(mo, .inr (8, [.int 0, .ref sc, .int ss, .int sp, .int ig, .int lf, .ref rd, .ref nw, .ref tr, .ref di, .int ac_7, .ref kp, .ref ik])), (nw, .inl (tc 0, 357, .inl row)), (di, .inl (tc 0, 4998, .inl dia_7))] := hD
      refine lv_aload_n hx hb dX8_set_26 rfl (lv_at hl 0 rfl) ?_
      refine va_get (D := D) (ci := 8) (v := .ref nw) (C := RX8) (T := TX8) (N := 13) hx hb hts iX8_set_X8 hown hK hP 0 rfl rfl 7 (by decide) (hts (.fieldLink RX8 16 "FrameCardModel" "now" "[I") (by decide +kernel)) (fun _ h9 => h9) rfl dX8_set_27 ?_
      refine lv_iload_n hx hb dX8_set_30 rfl (lv_at hl 1 rfl) ?_
      refine va_iald (D := D) hx hb hK hP 1 0 rfl rfl (by have l_0 : (0 : Int32).toInt = 0 := (by decide); have l_1 : (1 : Int32).toInt = 1 := (by decide); have l_2 : (2 : Int32).toInt = 2 := (by decide); have l_3 : (3 : Int32).toInt = 3 := (by decide); have l_4 : (4 : Int32).toInt = 4 := (by decide); have qc_2 := c_2; (try simp only [fc_le, fc_lt, fc_eq] at qc_2); have qhj_1 := hj_1; (try simp only [fc_le, fc_lt, fc_eq] at qhj_1); rw [vp_in_iff]; omega) dX8_set_31 ?_
      refine lv_istore_n (lv' := [(3, .int (row p0.toNatClampNeg)), (0, .ref mo), (1, .int p0), (2, .int p1)]) hx hb dX8_set_32 rfl hl (by decide) rfl (fun ls hl => ?_)
      refine lv_aload_n hx hb dX8_set_33 rfl (lv_at hl 1 rfl) ?_
      refine va_get (D := D) (ci := 8) (v := .ref nw) (C := RX8) (T := TX8) (N := 13) hx hb hts iX8_set_X8 hown hK hP 0 rfl rfl 7 (by decide) (hts (.fieldLink RX8 16 "FrameCardModel" "now" "[I") (by decide +kernel)) (fun _ h9 => h9) rfl dX8_set_34 ?_
      refine lv_iload_n hx hb dX8_set_37 rfl (lv_at hl 2 rfl) ?_
      refine lv_iload_n hx hb dX8_set_38 rfl (lv_at hl 3 rfl) ?_
      refine va_iast (D := D) hx hb hK hP hD hS 1 0 rfl rfl (by have l_0 : (0 : Int32).toInt = 0 := (by decide); have l_1 : (1 : Int32).toInt = 1 := (by decide); have l_2 : (2 : Int32).toInt = 2 := (by decide); have l_3 : (3 : Int32).toInt = 3 := (by decide); have l_4 : (4 : Int32).toInt = 4 := (by decide); have qc_2 := c_2; (try simp only [fc_le, fc_lt, fc_eq] at qc_2); have qhj_1 := hj_1; (try simp only [fc_le, fc_lt, fc_eq] at qhj_1); rw [vp_in_iff]; omega) dX8_set_39 (fun H locs hP hD hS => ?_)
      have hP : va_P D vwCl [(mo, .inr (8, [.int 0, .ref sc, .int ss, .int sp, .int ig, .int lf, .ref rd, .ref nw, .ref tr, .ref di, .int ac_7, .ref kp, .ref ik])), (nw, .inl (tc 0, 357, .inl (upd row p0.toNatClampNeg p1))), (di, .inl (tc 0, 4998, .inl dia_7))] H := hP
      have hD : va_D A [(mo, .inr (8, [.int 0, .ref sc, .int ss, .int sp, .int ig, .int lf, .ref rd, .ref nw, .ref tr, .ref di, .int ac_7, .ref kp, .ref ik])), (nw, .inl (tc 0, 357, .inl (upd row p0.toNatClampNeg p1))), (di, .inl (tc 0, 4998, .inl dia_7))] := hD
      obtain ⟨row_8, hw_8⟩ : ∃ z, (upd row p0.toNatClampNeg p1) = z := ⟨_, rfl⟩
      rw [hw_8] at hP hD
      refine lv_iload_n hx hb dX8_set_40 rfl (lv_at hl 0 rfl) ?_
      exact hret _ _ (row p0.toNatClampNeg) (0, ac_7, row_8, dia_7) _ _ (by rw [mX8_set]; (try dsimp only); rw [hw_1]; (try dsimp only); rw [if_neg c_2]; rw [hw_7]; (try dsimp only); rw [hw_8]; (try dsimp only); (first | done | rfl)) (hP.sub [0, 1, 2] rfl) (hD.sub [0, 1, 2] (by decide) rfl) hS dX8_set_41
    · exact absurd (by decide) c_6
--# X8_undo
noncomputable def mX8_undo (rf : Int32) (ss : Int32) (sp : Int32) (ig : Int32) (lf : Int32) (ac : Int32) (row : Nat → Int32) (dia : Nat → Int32) : Int32 × Int32 × Int32 × (Nat → Int32) :=
  if ac = 0 then
    (0, 1, ac, row)
  else
    let g_4 := mX8_copy 4998 dia 357 row (357 * (ac - 1)) 0 357
    ((ac - 1), 0, (ac - 1), g_4)
set_option maxRecDepth 20000 in
theorem iX8_undo_X8 : ∀ w ∈ wsX80, w ∈ wsX8_undo := by decide +kernel
abbrev rmX8_undo : Room := { frames := 1, cells := 0, slots := 0, locals := 25 }
set_option maxHeartbeats 4000000 in
set_option maxRecDepth 100000 in
theorem c_X8_undo (l : Launch) (D : va_G) (tc : Nat → ClassId) (mo : Nat) (sc : Nat) (rd : Nat) (nw : Nat) (tr : Nat) (di : Nat) (kp : Nat) (ik : Nat) (rf : Int32) (ss : Int32) (sp : Int32) (ig : Int32) (lf : Int32) (ac : Int32) (row : Nat → Int32) (dia : Nat → Int32) (sz : Nat) (hac : 0 ≤ ac.toInt ∧ ac.toInt ≤ 14) : Met l yX8_undo wsX8_undo rmX8_undo (va_Pc [.ref mo] (fcB D tc [(mo, .inr (8, [.int rf, .ref sc, .int ss, .int sp, .int ig, .int lf, .ref rd, .ref nw, .ref tr, .ref di, .int ac, .ref kp, .ref ik])), (nw, .inl (tc 0, 357, .inl row)), (di, .inl (tc 0, 4998, .inl dia))] sz)) (va_Qi (fun (r : Int32) (u : Int32 × Int32 × (Nat → Int32)) => mX8_undo rf ss sp ig lf ac row dia = (r, u)) (fun u t => fcO D (va_A [(mo, .inr (8, [.int rf, .ref sc, .int ss, .int sp, .int ig, .int lf, .ref rd, .ref nw, .ref tr, .ref di, .int ac, .ref kp, .ref ik])), (nw, .inl (tc 0, 357, .inl row)), (di, .inl (tc 0, 4998, .inl dia))] sz) ((fun (u : Int32 × Int32 × (Nat → Int32)) => [(mo, .inr (8, [.int (u.1), .ref sc, .int ss, .int sp, .int ig, .int lf, .ref rd, .ref nw, .ref tr, .ref di, .int (u.2.1), .ref kp, .ref ik])), (nw, .inl (tc 0, 357, .inl (u.2.2))), (di, .inl (tc 0, 4998, .inl dia))]) u) t) (va_A [(mo, .inr (8, [.int rf, .ref sc, .int ss, .int sp, .int ig, .int lf, .ref rd, .ref nw, .ref tr, .ref di, .int ac, .ref kp, .ref ik])), (nw, .inl (tc 0, 357, .inl row)), (di, .inl (tc 0, 4998, .inl dia))] sz)) 0 0 (va_A [(mo, .inr (8, [.int rf, .ref sc, .int ss, .int sp, .int ig, .int lf, .ref rd, .ref nw, .ref tr, .ref di, .int ac, .ref kp, .ref ik])), (nw, .inl (tc 0, 357, .inl row)), (di, .inl (tc 0, 4998, .inl dia))] sz) := by
  refine fc_ofWi (own := RX8) (cc := cX8_undo) (maxL := 1) (W1 := (fun (u : Int32 × Int32 × (Nat → Int32)) => [(mo, .inr (8, [.int (u.1), .ref sc, .int ss, .int sp, .int ig, .int lf, .ref rd, .ref nw, .ref tr, .ref di, .int (u.2.1), .ref kp, .ref ik])), (nw, .inl (tc 0, 357, .inl (u.2.2))), (di, .inl (tc 0, 4998, .inl dia))])) rfl (by decide) rfl (Nat.le_of_ble_eq_true rfl) ?_
  intro p e s m args below meth c A Q hx hb hml hown hts hK hE hP hD hS hA hin hret ls hl
  have hl : lv_has ls 1 [(0, .ref mo)] := hl
  refine lv_aload_n hx hb dX8_undo_0 rfl (lv_at hl 0 rfl) ?_
  refine lv_aload_n hx hb dX8_undo_1 rfl (lv_at hl 0 rfl) ?_
  refine va_get (D := D) (ci := 8) (v := .int ac) (C := RX8) (T := TX8) (N := 13) hx hb hts iX8_undo_X8 hown hK hP 0 rfl rfl 10 (by decide) (hts (.fieldLink RX8 42 "FrameCardModel" "acts" "I") (by decide +kernel)) (fun _ h9 => h9) rfl dX8_undo_2 ?_
  refine lv_if_ne (tgt := 12) hx hb dX8_undo_5 (by decide) (fun c_1 => ?_) (fun c_1 => ?_)
  · refine lv_iconst (v := 0) hx hb dX8_undo_12 (by decide) ?_
    refine fc_goi (isC := [0]) (isR := [1, 2]) (wc := [(mo, .inr (8, [.int rf, .ref sc, .int ss, .int sp, .int ig, .int lf, .ref rd, .ref nw, .ref tr, .ref di, .int ac, .ref kp, .ref ik]))]) (wr := [(nw, .inl (tc 0, 357, .inl row)), (di, .inl (tc 0, 4998, .inl dia))]) hP hD hS hA rfl rfl (by decide) (by decide) (fc_runV (isC := [0]) (As := [.int 0]) (rest := []) hx hb hml hown hts hK hE hP hD hS hA rfl (by decide) (c_X8_refused l D tc mo sc rd nw tr di kp ik rf ss sp ig lf ac 0 _ ) (cwV 1 hts gX8_undo_X8_refused rfl rfl rfl hd_X8_refused ⟨Nat.le_of_ble_eq_true rfl, Nat.le_of_ble_eq_true rfl⟩) (ci := 8) rfl rfl rfl rfl hl.1 rfl (Nat.le_of_ble_eq_true rfl) dX8_undo_13 ⟨Nat.le_of_ble_eq_true rfl, Nat.le_of_ble_eq_true rfl⟩) (fun r_2 u_2 H locs hw_2 hP hD hS => ?_)
    obtain ⟨rf_2, rfl⟩ : ∃ z, z = u_2 := ⟨_, rfl⟩
    obtain ⟨z1_2, z2_2⟩ := fx_ref0 hw_2
    subst z1_2
    subst z2_2
    have hP : va_P D vwCl [(nw, .inl (tc 0, 357, .inl row)), (di, .inl (tc 0, 4998, .inl dia)), (mo, .inr (8, [.int 0, .ref sc, .int ss, .int sp, .int ig, .int lf, .ref rd, .ref nw, .ref tr, .ref di, .int ac, .ref kp, .ref ik]))] H := hP
    have hD : va_D A [(nw, .inl (tc 0, 357, .inl row)), (di, .inl (tc 0, 4998, .inl dia)), (mo, .inr (8, [.int 0, .ref sc, .int ss, .int sp, .int ig, .int lf, .ref rd, .ref nw, .ref tr, .ref di, .int ac, .ref kp, .ref ik]))] := hD
    refine lv_if_eq (tgt := 21) hx hb dX8_undo_16 (by decide) (fun c_3 => ?_) (fun c_3 => ?_)
    · refine lv_aload_n hx hb dX8_undo_21 rfl (lv_at hl 0 rfl) ?_
      refine lv_dup hx hb dX8_undo_22 rfl ?_
      refine va_get (D := D) (ci := 8) (v := .int ac) (C := RX8) (T := TX8) (N := 13) hx hb hts iX8_undo_X8 hown hK hP 2 rfl rfl 10 (by decide) (hts (.fieldLink RX8 42 "FrameCardModel" "acts" "I") (by decide +kernel)) (fun _ h9 => h9) rfl dX8_undo_23 ?_
      refine lv_iconst (v := 1) hx hb dX8_undo_26 (by decide) ?_
      refine lv_isub hx hb dX8_undo_27 ?_
      refine va_put (D := D) (ci := 8) (v := .int (ac - 1)) (ty := .int) (C := RX8) (T := TX8) (N := 13) hx hb hts iX8_undo_X8 tyX8 tyX8_ok nmX8 hown hK hP hD hS 2 rfl rfl 10 (by decide) (hts (.fieldLink RX8 42 "FrameCardModel" "acts" "I") (by decide +kernel)) (fun _ h9 => h9) rfl (by decide +kernel) rfl rfl (Nat.le_of_ble_eq_true rfl) dX8_undo_28 (fun H locs hP hD hS => ?_)
      have hP : va_P D vwCl [(nw, .inl (tc 0, 357, .inl row)), (di, .inl (tc 0, 4998, .inl dia)), (mo, .inr (8, [.int 0, .ref sc, .int ss, .int sp, .int ig, .int lf, .ref rd, .ref nw, .ref tr, .ref di, .int (ac - 1), .ref kp, .ref ik]))] H := hP
      have hD : va_D A [(nw, .inl (tc 0, 357, .inl row)), (di, .inl (tc 0, 4998, .inl dia)), (mo, .inr (8, [.int 0, .ref sc, .int ss, .int sp, .int ig, .int lf, .ref rd, .ref nw, .ref tr, .ref di, .int (ac - 1), .ref kp, .ref ik]))] := hD
      refine lv_aload_n hx hb dX8_undo_31 rfl (lv_at hl 0 rfl) ?_
      refine va_get (D := D) (ci := 8) (v := .ref di) (C := RX8) (T := TX8) (N := 13) hx hb hts iX8_undo_X8 hown hK hP 2 rfl rfl 9 (by decide) (hts (.fieldLink RX8 22 "FrameCardModel" "diary" "[I") (by decide +kernel)) (fun _ h9 => h9) rfl dX8_undo_32 ?_
      refine lv_sipush (v := 357) hx hb dX8_undo_35 (by decide) ?_
      refine lv_aload_n hx hb dX8_undo_38 rfl (lv_at hl 0 rfl) ?_
      refine va_get (D := D) (ci := 8) (v := .int (ac - 1)) (C := RX8) (T := TX8) (N := 13) hx hb hts iX8_undo_X8 hown hK hP 2 rfl rfl 10 (by decide) (hts (.fieldLink RX8 42 "FrameCardModel" "acts" "I") (by decide +kernel)) (fun _ h9 => h9) rfl dX8_undo_39 ?_
      refine lv_imul hx hb dX8_undo_42 ?_
      refine lv_aload_n hx hb dX8_undo_43 rfl (lv_at hl 0 rfl) ?_
      refine va_get (D := D) (ci := 8) (v := .ref nw) (C := RX8) (T := TX8) (N := 13) hx hb hts iX8_undo_X8 hown hK hP 2 rfl rfl 7 (by decide) (hts (.fieldLink RX8 16 "FrameCardModel" "now" "[I") (by decide +kernel)) (fun _ h9 => h9) rfl dX8_undo_44 ?_
      refine lv_iconst (v := 0) hx hb dX8_undo_47 (by decide) ?_
      refine lv_sipush (v := 357) hx hb dX8_undo_48 (by decide) ?_
      refine fc_gov (isC := [1, 0]) (isR := [2]) (wc := [(di, .inl (tc 0, 4998, .inl dia)), (nw, .inl (tc 0, 357, .inl row))]) (wr := [(mo, .inr (8, [.int 0, .ref sc, .int ss, .int sp, .int ig, .int lf, .ref rd, .ref nw, .ref tr, .ref di, .int (ac - 1), .ref kp, .ref ik]))]) hP hD hS hA rfl rfl (by decide) (by decide) (fc_runS (isC := [1, 0]) (As := [.ref di, .int (357 * (ac - 1)), .ref nw, .int 0, .int 357]) (rest := []) hx hb hml hown hts hK hE hP hD hS hA rfl (by decide) (c_X8_copy l D tc di 4998 dia nw 357 row (357 * (ac - 1)) 0 357 _ (by have l_0 : (0 : Int32).toInt = 0 := (by decide); have l_1 : (1 : Int32).toInt = 1 := (by decide); have l_2 : (2 : Int32).toInt = 2 := (by decide); have l_3 : (3 : Int32).toInt = 3 := (by decide); have l_357 : (357 : Int32).toInt = 357 := (by decide); have l_4 : (4 : Int32).toInt = 4 := (by decide); have l_4998 : (4998 : Int32).toInt = 4998 := (by decide); have qc_1 := c_1; (try simp only [fc_le, fc_lt, fc_eq] at qc_1); have a_2 := fc_subk (x := ac) (k := 1) (n := 1) (by decide) (by omega) (by omega); have a_2 := fc_kmul (x := (ac - 1)) (k := 357) (n := 357) (by decide) (by omega) (by omega); (try simp only [fc_le, fc_lt, fc_eq]); omega) (by have l_0 : (0 : Int32).toInt = 0 := (by decide); have l_1 : (1 : Int32).toInt = 1 := (by decide); have l_2 : (2 : Int32).toInt = 2 := (by decide); have l_3 : (3 : Int32).toInt = 3 := (by decide); have l_357 : (357 : Int32).toInt = 357 := (by decide); have l_4 : (4 : Int32).toInt = 4 := (by decide); have l_4998 : (4998 : Int32).toInt = 4998 := (by decide); have qc_1 := c_1; (try simp only [fc_le, fc_lt, fc_eq] at qc_1); have a_2 := fc_subk (x := ac) (k := 1) (n := 1) (by decide) (by omega) (by omega); have a_2 := fc_kmul (x := (ac - 1)) (k := 357) (n := 357) (by decide) (by omega) (by omega); (try simp only [fc_le, fc_lt, fc_eq]); omega) (by have l_0 : (0 : Int32).toInt = 0 := (by decide); have l_1 : (1 : Int32).toInt = 1 := (by decide); have l_2 : (2 : Int32).toInt = 2 := (by decide); have l_3 : (3 : Int32).toInt = 3 := (by decide); have l_357 : (357 : Int32).toInt = 357 := (by decide); have l_4 : (4 : Int32).toInt = 4 := (by decide); have l_4998 : (4998 : Int32).toInt = 4998 := (by decide); have qc_1 := c_1; (try simp only [fc_le, fc_lt, fc_eq] at qc_1); have a_2 := fc_subk (x := ac) (k := 1) (n := 1) (by decide) (by omega) (by omega); have a_2 := fc_kmul (x := (ac - 1)) (k := 357) (n := 357) (by decide) (by omega) (by omega); (try simp only [fc_le, fc_lt, fc_eq]); omega)) (cwS 5 hts gX8_undo_X8_copy rfl rfl rfl hd_X8_copy ⟨Nat.le_of_ble_eq_true rfl, Nat.le_of_ble_eq_true rfl⟩) rfl hl.1 rfl (Nat.le_of_ble_eq_true rfl) dX8_undo_51 ⟨Nat.le_of_ble_eq_true rfl, Nat.le_of_ble_eq_true rfl⟩) (fun u_4 H locs hw_4 hP hD hS => ?_)
      obtain ⟨g_4, rfl⟩ : ∃ z, z = u_4 := ⟨_, rfl⟩
      try dsimp only at hw_4
      have hP : va_P D vwCl [(mo, .inr (8, [.int 0, .ref sc, .int ss, .int sp, .int ig, .int lf, .ref rd, .ref nw, .ref tr, .ref di, .int (ac - 1), .ref kp, .ref ik])), (di, .inl (tc 0, 4998, .inl dia)), (nw, .inl (tc 0, 357, .inl g_4))] H := hP
      have hD : va_D A [(mo, .inr (8, [.int 0, .ref sc, .int ss, .int sp, .int ig, .int lf, .ref rd, .ref nw, .ref tr, .ref di, .int (ac - 1), .ref kp, .ref ik])), (di, .inl (tc 0, 4998, .inl dia)), (nw, .inl (tc 0, 357, .inl g_4))] := hD
      refine lv_aload_n hx hb dX8_undo_54 rfl (lv_at hl 0 rfl) ?_
      refine va_get (D := D) (ci := 8) (v := .int (ac - 1)) (C := RX8) (T := TX8) (N := 13) hx hb hts iX8_undo_X8 hown hK hP 0 rfl rfl 10 (by decide) (hts (.fieldLink RX8 42 "FrameCardModel" "acts" "I") (by decide +kernel)) (fun _ h9 => h9) rfl dX8_undo_55 ?_
      exact hret _ _ (ac - 1) (0, (ac - 1), g_4) _ _ (by rw [mX8_undo]; (try dsimp only); rw [if_neg c_1]; rw [hw_4]; (try dsimp only); (first | done | rfl)) (hP.sub [0, 2, 1] rfl) (hD.sub [0, 2, 1] (by decide) rfl) hS dX8_undo_58
    · exact absurd (by decide) c_3
  · refine lv_iconst (v := 1) hx hb dX8_undo_8 (by decide) ?_
    refine lv_goto (tgt := 13) hx hb dX8_undo_9 (by decide) ?_
    refine fc_goi (isC := [0]) (isR := [1, 2]) (wc := [(mo, .inr (8, [.int rf, .ref sc, .int ss, .int sp, .int ig, .int lf, .ref rd, .ref nw, .ref tr, .ref di, .int ac, .ref kp, .ref ik]))]) (wr := [(nw, .inl (tc 0, 357, .inl row)), (di, .inl (tc 0, 4998, .inl dia))]) hP hD hS hA rfl rfl (by decide) (by decide) (fc_runV (isC := [0]) (As := [.int 1]) (rest := []) hx hb hml hown hts hK hE hP hD hS hA rfl (by decide) (c_X8_refused l D tc mo sc rd nw tr di kp ik rf ss sp ig lf ac 1 _ ) (cwV 1 hts gX8_undo_X8_refused rfl rfl rfl hd_X8_refused ⟨Nat.le_of_ble_eq_true rfl, Nat.le_of_ble_eq_true rfl⟩) (ci := 8) rfl rfl rfl rfl hl.1 rfl (Nat.le_of_ble_eq_true rfl) dX8_undo_13 ⟨Nat.le_of_ble_eq_true rfl, Nat.le_of_ble_eq_true rfl⟩) (fun r_5 u_5 H locs hw_5 hP hD hS => ?_)
    obtain ⟨rf_5, rfl⟩ : ∃ z, z = u_5 := ⟨_, rfl⟩
    obtain ⟨z1_5, z2_5⟩ := fx_ref1 hw_5
    subst z1_5
    subst z2_5
    have hP : va_P D vwCl [(nw, .inl (tc 0, 357, .inl row)), (di, .inl (tc 0, 4998, .inl dia)), (mo, .inr (8, [.int 1, .ref sc, .int ss, .int sp, .int ig, .int lf, .ref rd, .ref nw, .ref tr, .ref di, .int ac, .ref kp, .ref ik]))] H := hP
    have hD : va_D A [(nw, .inl (tc 0, 357, .inl row)), (di, .inl (tc 0, 4998, .inl dia)), (mo, .inr (8, [.int 1, .ref sc, .int ss, .int sp, .int ig, .int lf, .ref rd, .ref nw, .ref tr, .ref di, .int ac, .ref kp, .ref ik]))] := hD
    refine lv_if_eq (tgt := 21) hx hb dX8_undo_16 (by decide) (fun c_6 => ?_) (fun c_6 => ?_)
    · exact absurd c_6 (by decide)
    · refine lv_iconst (v := 0) hx hb dX8_undo_19 (by decide) ?_
      exact hret _ _ (0) (1, ac, row) _ _ (by rw [mX8_undo]; (try dsimp only); rw [if_pos c_1]; (first | done | rfl)) (hP.sub [2, 0, 1] rfl) (hD.sub [2, 0, 1] (by decide) rfl) hS dX8_undo_20
