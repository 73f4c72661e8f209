/-! The reference: slots -/
--# X8_save
noncomputable def mX8_save (rf : Int32) (ss : Int32) (sp : Int32) (ig : Int32) (lf : Int32) (ac : Int32) (row : Nat → Int32) (kpt : Nat → Int32) (isk : Nat → Int32) (p0 : Int32) : Int32 × Int32 × (Nat → Int32) × (Nat → Int32) :=
  let r_1 := mX8_in p0.toInt64 0 1
  if r_1 = 0 then
    (0, 1, kpt, isk)
  else
    let g_7 := mX8_copy 357 row 714 kpt 0 (357 * p0) 357
    ((row (16 : Int32).toNatClampNeg), 0, g_7, (upd isk p0.toNatClampNeg (vp_nar .boolean 1)))
set_option maxRecDepth 20000 in
theorem iX8_save_X8 : ∀ w ∈ wsX80, w ∈ wsX8_save := by decide +kernel
abbrev rmX8_save : Room := { frames := 1, cells := 0, slots := 0, locals := 25 }
set_option maxHeartbeats 4000000 in
set_option maxRecDepth 100000 in
theorem c_X8_save (l : Launch) (D : va_G) (tc : Nat → ClassId) (mo : Nat) (sc : Nat) (rd : Nat) (nw : Nat) (tr : Nat) (di : Nat) (kp : Nat) (ik : Nat) (rf : Int32) (ss : Int32) (sp : Int32) (ig : Int32) (lf : Int32) (ac : Int32) (row : Nat → Int32) (kpt : Nat → Int32) (isk : Nat → Int32) (p0 : Int32) (sz : Nat) : Met l yX8_save wsX8_save rmX8_save (va_Pc [.ref mo, .int p0] (fcB D tc [(mo, .inr (8, [.int rf, .ref sc, .int ss, .int sp, .int ig, .int lf, .ref rd, .ref nw, .ref tr, .ref di, .int ac, .ref kp, .ref ik])), (nw, .inl (tc 0, 357, .inl row)), (kp, .inl (tc 0, 714, .inl kpt)), (ik, .inl (tc 2, 2, .inl isk))] sz)) (va_Qi (fun (r : Int32) (u : Int32 × (Nat → Int32) × (Nat → Int32)) => mX8_save rf ss sp ig lf ac row kpt isk p0 = (r, u)) (fun u t => fcO D (va_A [(mo, .inr (8, [.int rf, .ref sc, .int ss, .int sp, .int ig, .int lf, .ref rd, .ref nw, .ref tr, .ref di, .int ac, .ref kp, .ref ik])), (nw, .inl (tc 0, 357, .inl row)), (kp, .inl (tc 0, 714, .inl kpt)), (ik, .inl (tc 2, 2, .inl isk))] sz) ((fun (u : Int32 × (Nat → Int32) × (Nat → Int32)) => [(mo, .inr (8, [.int (u.1), .ref sc, .int ss, .int sp, .int ig, .int lf, .ref rd, .ref nw, .ref tr, .ref di, .int ac, .ref kp, .ref ik])), (nw, .inl (tc 0, 357, .inl row)), (kp, .inl (tc 0, 714, .inl (u.2.1))), (ik, .inl (tc 2, 2, .inl (u.2.2)))]) u) t) (va_A [(mo, .inr (8, [.int rf, .ref sc, .int ss, .int sp, .int ig, .int lf, .ref rd, .ref nw, .ref tr, .ref di, .int ac, .ref kp, .ref ik])), (nw, .inl (tc 0, 357, .inl row)), (kp, .inl (tc 0, 714, .inl kpt)), (ik, .inl (tc 2, 2, .inl isk))] sz)) 0 0 (va_A [(mo, .inr (8, [.int rf, .ref sc, .int ss, .int sp, .int ig, .int lf, .ref rd, .ref nw, .ref tr, .ref di, .int ac, .ref kp, .ref ik])), (nw, .inl (tc 0, 357, .inl row)), (kp, .inl (tc 0, 714, .inl kpt)), (ik, .inl (tc 2, 2, .inl isk))] sz) := by
  refine fc_ofWi (own := RX8) (cc := cX8_save) (maxL := 2) (W1 := (fun (u : Int32 × (Nat → Int32) × (Nat → Int32)) => [(mo, .inr (8, [.int (u.1), .ref sc, .int ss, .int sp, .int ig, .int lf, .ref rd, .ref nw, .ref tr, .ref di, .int ac, .ref kp, .ref ik])), (nw, .inl (tc 0, 357, .inl row)), (kp, .inl (tc 0, 714, .inl (u.2.1))), (ik, .inl (tc 2, 2, .inl (u.2.2)))])) rfl (by decide) rfl (Nat.le_of_ble_eq_true rfl) ?_
  intro p e s m args below meth c A Q hx hb hml hown hts hK hE hP hD hS hA hin hret ls hl
  have hl : lv_has ls 2 [(0, .ref mo), (1, .int p0)] := hl
  refine lv_aload_n hx hb dX8_save_0 rfl (lv_at hl 0 rfl) ?_
  refine lv_iload_n hx hb dX8_save_1 rfl (lv_at hl 1 rfl) ?_
  refine lv_i2l hx hb dX8_save_2 rfl ?_
  refine lv_lconst (v := 0) hx hb dX8_save_3 (by decide) ?_
  refine lv_lconst (v := 1) hx hb dX8_save_4 (by decide) ?_
  refine fc_goi (isC := []) (isR := [0, 1, 2, 3]) (wc := []) (wr := [(mo, .inr (8, [.int rf, .ref sc, .int ss, .int sp, .int ig, .int lf, .ref rd, .ref nw, .ref tr, .ref di, .int ac, .ref kp, .ref ik])), (nw, .inl (tc 0, 357, .inl row)), (kp, .inl (tc 0, 714, .inl kpt)), (ik, .inl (tc 2, 2, .inl isk))]) hP hD hS hA rfl rfl (by decide) (by decide) (fc_runS (isC := []) (As := [.long p0.toInt64, .long 0, .long 1]) (rest := [.ref mo]) hx hb hml hown hts hK hE hP hD hS hA rfl (by decide) (c_X8_in l D tc p0.toInt64 0 1 _ ) (cwS 3 hts gX8_save_X8_in rfl rfl rfl hd_X8_in ⟨Nat.le_of_ble_eq_true rfl, Nat.le_of_ble_eq_true rfl⟩) rfl hl.1 rfl (Nat.le_of_ble_eq_true rfl) dX8_save_5 ⟨Nat.le_of_ble_eq_true rfl, Nat.le_of_ble_eq_true rfl⟩) (fun r_1 u_1 H locs hw_1 hP hD hS => ?_)
  try dsimp only at hw_1
  have hP : va_P D vwCl [(mo, .inr (8, [.int rf, .ref sc, .int ss, .int sp, .int ig, .int lf, .ref rd, .ref nw, .ref tr, .ref di, .int ac, .ref kp, .ref ik])), (nw, .inl (tc 0, 357, .inl row)), (kp, .inl (tc 0, 714, .inl kpt)), (ik, .inl (tc 2, 2, .inl isk))] H := hP
  have hD : va_D A [(mo, .inr (8, [.int rf, .ref sc, .int ss, .int sp, .int ig, .int lf, .ref rd, .ref nw, .ref tr, .ref di, .int ac, .ref kp, .ref ik])), (nw, .inl (tc 0, 357, .inl row)), (kp, .inl (tc 0, 714, .inl kpt)), (ik, .inl (tc 2, 2, .inl isk))] := hD
  have hi_1 := fx_in3 hw_1 (A := p0.toInt) (B := 0) (C := 1) (Int32.toInt_toInt64 _) (by decide) (by decide)
  refine lv_if_eq (tgt := 15) hx hb dX8_save_8 (by decide) (fun c_2 => ?_) (fun c_2 => ?_)
  · refine lv_iconst (v := 1) hx hb dX8_save_15 (by decide) ?_
    refine fc_goi (isC := [0]) (isR := [1, 2, 3]) (wc := [(mo, .inr (8, [.int rf, .ref sc, .int ss, .int sp, .int ig, .int lf, .ref rd, .ref nw, .ref tr, .ref di, .int ac, .ref kp, .ref ik]))]) (wr := [(nw, .inl (tc 0, 357, .inl row)), (kp, .inl (tc 0, 714, .inl kpt)), (ik, .inl (tc 2, 2, .inl isk))]) hP hD hS hA rfl rfl (by decide) (by decide) (fc_runV (isC := [0]) (As := [.int 1]) (rest := []) hx hb hml hown hts hK hE hP hD hS hA rfl (by decide) (c_X8_refused l D tc mo sc rd nw tr di kp ik rf ss sp ig lf ac 1 _ ) (cwV 1 hts gX8_save_X8_refused rfl rfl rfl hd_X8_refused ⟨Nat.le_of_ble_eq_true rfl, Nat.le_of_ble_eq_true rfl⟩) (ci := 8) rfl rfl rfl rfl hl.1 rfl (Nat.le_of_ble_eq_true rfl) dX8_save_16 ⟨Nat.le_of_ble_eq_true rfl, Nat.le_of_ble_eq_true rfl⟩) (fun r_3 u_3 H locs hw_3 hP hD hS => ?_)
    obtain ⟨rf_3, rfl⟩ : ∃ z, z = u_3 := ⟨_, rfl⟩
    obtain ⟨z1_3, z2_3⟩ := fx_ref1 hw_3
    subst z1_3
    subst z2_3
    have hP : va_P D vwCl [(nw, .inl (tc 0, 357, .inl row)), (kp, .inl (tc 0, 714, .inl kpt)), (ik, .inl (tc 2, 2, .inl isk)), (mo, .inr (8, [.int 1, .ref sc, .int ss, .int sp, .int ig, .int lf, .ref rd, .ref nw, .ref tr, .ref di, .int ac, .ref kp, .ref ik]))] H := hP
    have hD : va_D A [(nw, .inl (tc 0, 357, .inl row)), (kp, .inl (tc 0, 714, .inl kpt)), (ik, .inl (tc 2, 2, .inl isk)), (mo, .inr (8, [.int 1, .ref sc, .int ss, .int sp, .int ig, .int lf, .ref rd, .ref nw, .ref tr, .ref di, .int ac, .ref kp, .ref ik]))] := hD
    refine lv_if_eq (tgt := 24) hx hb dX8_save_19 (by decide) (fun c_4 => ?_) (fun c_4 => ?_)
    · exact absurd c_4 (by decide)
    · refine lv_iconst (v := 0) hx hb dX8_save_22 (by decide) ?_
      exact hret _ _ (0) (1, kpt, isk) _ _ (by rw [mX8_save]; (try dsimp only); rw [hw_1]; (try dsimp only); rw [if_pos c_2]; (first | done | rfl)) (hP.sub [3, 0, 1, 2] rfl) (hD.sub [3, 0, 1, 2] (by decide) rfl) hS dX8_save_23
  · have hj_1 := hi_1.resolve_left c_2
    refine lv_iconst (v := 0) hx hb dX8_save_11 (by decide) ?_
    refine lv_goto (tgt := 16) hx hb dX8_save_12 (by decide) ?_
    refine fc_goi (isC := [0]) (isR := [1, 2, 3]) (wc := [(mo, .inr (8, [.int rf, .ref sc, .int ss, .int sp, .int ig, .int lf, .ref rd, .ref nw, .ref tr, .ref di, .int ac, .ref kp, .ref ik]))]) (wr := [(nw, .inl (tc 0, 357, .inl row)), (kp, .inl (tc 0, 714, .inl kpt)), (ik, .inl (tc 2, 2, .inl isk))]) hP hD hS hA rfl rfl (by decide) (by decide) (fc_runV (isC := [0]) (As := [.int 0]) (rest := []) hx hb hml hown hts hK hE hP hD hS hA rfl (by decide) (c_X8_refused l D tc mo sc rd nw tr di kp ik rf ss sp ig lf ac 0 _ ) (cwV 1 hts gX8_save_X8_refused rfl rfl rfl hd_X8_refused ⟨Nat.le_of_ble_eq_true rfl, Nat.le_of_ble_eq_true rfl⟩) (ci := 8) rfl rfl rfl rfl hl.1 rfl (Nat.le_of_ble_eq_true rfl) dX8_save_16 ⟨Nat.le_of_ble_eq_true rfl, Nat.le_of_ble_eq_true rfl⟩) (fun r_5 u_5 H locs hw_5 hP hD hS => ?_)
    obtain ⟨rf_5, rfl⟩ : ∃ z, z = u_5 := ⟨_, rfl⟩
    obtain ⟨z1_5, z2_5⟩ := fx_ref0 hw_5
    subst z1_5
    subst z2_5
    have hP : va_P D vwCl [(nw, .inl (tc 0, 357, .inl row)), (kp, .inl (tc 0, 714, .inl kpt)), (ik, .inl (tc 2, 2, .inl isk)), (mo, .inr (8, [.int 0, .ref sc, .int ss, .int sp, .int ig, .int lf, .ref rd, .ref nw, .ref tr, .ref di, .int ac, .ref kp, .ref ik]))] H := hP
    have hD : va_D A [(nw, .inl (tc 0, 357, .inl row)), (kp, .inl (tc 0, 714, .inl kpt)), (ik, .inl (tc 2, 2, .inl isk)), (mo, .inr (8, [.int 0, .ref sc, .int ss, .int sp, .int ig, .int lf, .ref rd, .ref nw, .ref tr, .ref di, .int ac, .ref kp, .ref ik]))] := hD
    refine lv_if_eq (tgt := 24) hx hb dX8_save_19 (by decide) (fun c_6 => ?_) (fun c_6 => ?_)
    · refine lv_aload_n hx hb dX8_save_24 rfl (lv_at hl 0 rfl) ?_
      refine va_get (D := D) (ci := 8) (v := .ref nw) (C := RX8) (T := TX8) (N := 13) hx hb hts iX8_save_X8 hown hK hP 3 rfl rfl 7 (by decide) (hts (.fieldLink RX8 16 "FrameCardModel" "now" "[I") (by decide +kernel)) (fun _ h9 => h9) rfl dX8_save_25 ?_
      refine lv_iconst (v := 0) hx hb dX8_save_28 (by decide) ?_
      refine lv_aload_n hx hb dX8_save_29 rfl (lv_at hl 0 rfl) ?_
      refine va_get (D := D) (ci := 8) (v := .ref kp) (C := RX8) (T := TX8) (N := 13) hx hb hts iX8_save_X8 hown hK hP 3 rfl rfl 11 (by decide) (hts (.fieldLink RX8 25 "FrameCardModel" "kept" "[I") (by decide +kernel)) (fun _ h9 => h9) rfl dX8_save_30 ?_
      refine lv_sipush (v := 357) hx hb dX8_save_33 (by decide) ?_
      refine lv_iload_n hx hb dX8_save_36 rfl (lv_at hl 1 rfl) ?_
      refine lv_imul hx hb dX8_save_37 ?_
      refine lv_sipush (v := 357) hx hb dX8_save_38 (by decide) ?_
      have b1 := fc_kmul (x := p0) (k := 357) (n := 357) (by decide) (by omega) (by omega)
      refine fc_gov (isC := [0, 1]) (isR := [2, 3]) (wc := [(nw, .inl (tc 0, 357, .inl row)), (kp, .inl (tc 0, 714, .inl kpt))]) (wr := [(ik, .inl (tc 2, 2, .inl isk)), (mo, .inr (8, [.int 0, .ref sc, .int ss, .int sp, .int ig, .int lf, .ref rd, .ref nw, .ref tr, .ref di, .int ac, .ref kp, .ref ik]))]) hP hD hS hA rfl rfl (by decide) (by decide) (fc_runS (isC := [0, 1]) (As := [.ref nw, .int 0, .ref kp, .int (357 * p0), .int 357]) (rest := []) hx hb hml hown hts hK hE hP hD hS hA rfl (by decide) (c_X8_copy l D tc nw 357 row kp 714 kpt 0 (357 * p0) 357 _ (by have l_0 : (0 : Int32).toInt = 0 := (by decide); have l_1 : (1 : Int32).toInt = 1 := (by decide); have l_2 : (2 : Int32).toInt = 2 := (by decide); have l_3 : (3 : Int32).toInt = 3 := (by decide); have l_357 : (357 : Int32).toInt = 357 := (by decide); have l_4 : (4 : Int32).toInt = 4 := (by decide); have l_714 : (714 : Int32).toInt = 714 := (by decide); have qc_2 := c_2; (try simp only [fc_le, fc_lt, fc_eq] at qc_2); have a_1 := fc_kmul (x := p0) (k := 357) (n := 357) (by decide) (by omega) (by omega); have qhj_1 := hj_1; (try simp only [fc_le, fc_lt, fc_eq] at qhj_1); (try simp only [fc_le, fc_lt, fc_eq]); omega) (by have l_0 : (0 : Int32).toInt = 0 := (by decide); have l_1 : (1 : Int32).toInt = 1 := (by decide); have l_2 : (2 : Int32).toInt = 2 := (by decide); have l_3 : (3 : Int32).toInt = 3 := (by decide); have l_357 : (357 : Int32).toInt = 357 := (by decide); have l_4 : (4 : Int32).toInt = 4 := (by decide); have l_714 : (714 : Int32).toInt = 714 := (by decide); have qc_2 := c_2; (try simp only [fc_le, fc_lt, fc_eq] at qc_2); have a_1 := fc_kmul (x := p0) (k := 357) (n := 357) (by decide) (by omega) (by omega); have qhj_1 := hj_1; (try simp only [fc_le, fc_lt, fc_eq] at qhj_1); (try simp only [fc_le, fc_lt, fc_eq]); omega) (by have l_0 : (0 : Int32).toInt = 0 := (by decide); have l_1 : (1 : Int32).toInt = 1 := (by decide); have l_2 : (2 : Int32).toInt = 2 := (by decide); have l_3 : (3 : Int32).toInt = 3 := (by decide); have l_357 : (357 : Int32).toInt = 357 := (by decide); have l_4 : (4 : Int32).toInt = 4 := (by decide); have l_714 : (714 : Int32).toInt = 714 := (by decide); have qc_2 := c_2; (try simp only [fc_le, fc_lt, fc_eq] at qc_2); have a_1 := fc_kmul (x := p0) (k := 357) (n := 357) (by decide) (by omega) (by omega); have qhj_1 := hj_1; (try simp only [fc_le, fc_lt, fc_eq] at qhj_1); (try simp only [fc_le, fc_lt, fc_eq]); omega)) (cwS 5 hts gX8_save_X8_copy rfl rfl rfl hd_X8_copy ⟨Nat.le_of_ble_eq_true rfl, Nat.le_of_ble_eq_true rfl⟩) rfl hl.1 rfl (Nat.le_of_ble_eq_true rfl) dX8_save_41 ⟨Nat.le_of_ble_eq_true rfl, Nat.le_of_ble_eq_true rfl⟩) (fun u_7 H locs hw_7 hP hD hS => ?_)
      obtain ⟨g_7, rfl⟩ : ∃ z, z = u_7 := ⟨_, rfl⟩
      try dsimp only at hw_7
      have hP : va_P D vwCl [(ik, .inl (tc 2, 2, .inl isk)), (mo, .inr (8, [.int 0, .ref sc, .int ss, .int sp, .int ig, .int lf, .ref rd, .ref nw, .ref tr, .ref di, .int ac, .ref kp, .ref ik])), (nw, .inl (tc 0, 357, .inl row)), (kp, .inl (tc 0, 714, .inl g_7))] H := hP
      have hD : va_D A [(ik, .inl (tc 2, 2, .inl isk)), (mo, .inr (8, [.int 0, .ref sc, .int ss, .int sp, .int ig, .int lf, .ref rd, .ref nw, .ref tr, .ref di, .int ac, .ref kp, .ref ik])), (nw, .inl (tc 0, 357, .inl row)), (kp, .inl (tc 0, 714, .inl g_7))] := hD
      refine lv_aload_n hx hb dX8_save_44 rfl (lv_at hl 0 rfl) ?_
      refine va_get (D := D) (ci := 8) (v := .ref ik) (C := RX8) (T := TX8) (N := 13) hx hb hts iX8_save_X8 hown hK hP 1 rfl rfl 12 (by decide) (hts (.fieldLink RX8 28 "FrameCardModel" "isKept" "[Z") (by decide +kernel)) (fun _ h9 => h9) rfl dX8_save_45 ?_
      refine lv_iload_n hx hb dX8_save_48 rfl (lv_at hl 1 rfl) ?_
      refine lv_iconst (v := 1) hx hb dX8_save_49 (by decide) ?_
      refine va_zast (D := D) hx hb hK hP hD hS 0 2 rfl rfl (by have l_0 : (0 : Int32).toInt = 0 := (by decide); have l_1 : (1 : Int32).toInt = 1 := (by decide); have l_2 : (2 : Int32).toInt = 2 := (by decide); have l_3 : (3 : Int32).toInt = 3 := (by decide); have l_4 : (4 : Int32).toInt = 4 := (by decide); have qc_2 := c_2; (try simp only [fc_le, fc_lt, fc_eq] at qc_2); have qhj_1 := hj_1; (try simp only [fc_le, fc_lt, fc_eq] at qhj_1); rw [vp_in_iff]; omega) dX8_save_50 (fun H locs hP hD hS => ?_)
      have hP : va_P D vwCl [(ik, .inl (tc 2, 2, .inl (upd isk p0.toNatClampNeg (vp_nar .boolean 1)))), (mo, .inr (8, [.int 0, .ref sc, .int ss, .int sp, .int ig, .int lf, .ref rd, .ref nw, .ref tr, .ref di, .int ac, .ref kp, .ref ik])), (nw, .inl (tc 0, 357, .inl row)), (kp, .inl (tc 0, 714, .inl g_7))] H := hP
      have hD : va_D A [(ik, .inl (tc 2, 2, .inl (upd isk p0.toNatClampNeg (vp_nar .boolean 1)))), (mo, .inr (8, [.int 0, .ref sc, .int ss, .int sp, .int ig, .int lf, .ref rd, .ref nw, .ref tr, .ref di, .int ac, .ref kp, .ref ik])), (nw, .inl (tc 0, 357, .inl row)), (kp, .inl (tc 0, 714, .inl g_7))] := hD
      refine lv_aload_n hx hb dX8_save_51 rfl (lv_at hl 0 rfl) ?_
      refine va_get (D := D) (ci := 8) (v := .ref nw) (C := RX8) (T := TX8) (N := 13) hx hb hts iX8_save_X8 hown hK hP 1 rfl rfl 7 (by decide) (hts (.fieldLink RX8 16 "FrameCardModel" "now" "[I") (by decide +kernel)) (fun _ h9 => h9) rfl dX8_save_52 ?_
      refine lv_bipush (v := 16) hx hb dX8_save_55 (by decide) ?_
      refine va_iald (D := D) hx hb hK hP 2 0 rfl rfl (vp_in_iff.mpr (by decide)) dX8_save_57 ?_
      exact hret _ _ (row (16 : Int32).toNatClampNeg) (0, g_7, (upd isk p0.toNatClampNeg (vp_nar .boolean 1))) _ _ (by rw [mX8_save]; (try dsimp only); rw [hw_1]; (try dsimp only); rw [if_neg c_2]; rw [hw_7]; (try dsimp only); (first | done | rfl)) (hP.sub [1, 2, 3, 0] rfl) (hD.sub [1, 2, 3, 0] (by decide) rfl) hS dX8_save_58
    · exact absurd (by decide) c_6
--# X8_restore
noncomputable def mX8_restore (rf : Int32) (ss : Int32) (sp : Int32) (ig : Int32) (lf : Int32) (ac : Int32) (row : Nat → Int32) (kpt : Nat → Int32) (isk : Nat → Int32) (p0 : Int32) : Int32 × Int32 × Int32 × (Nat → Int32) :=
  let r_1 := mX8_in p0.toInt64 0 1
  if r_1 = 0 then
    (0, 1, ac, row)
  else
    if (isk p0.toNatClampNeg) = 0 then
      (0, 2, ac, row)
    else
      let g_8 := mX8_copy 714 kpt 357 row (357 * p0) 0 357
      ((g_8 (16 : Int32).toNatClampNeg), 0, 0, g_8)
set_option maxRecDepth 20000 in
theorem iX8_restore_X8 : ∀ w ∈ wsX80, w ∈ wsX8_restore := by decide +kernel
abbrev rmX8_restore : Room := { frames := 1, cells := 0, slots := 0, locals := 25 }
set_option maxHeartbeats 4000000 in
set_option maxRecDepth 100000 in
theorem c_X8_restore (l : Launch) (D : va_G) (tc : Nat → ClassId) (mo : Nat) (sc : Nat) (rd : Nat) (nw : Nat) (tr : Nat) (di : Nat) (kp : Nat) (ik : Nat) (rf : Int32) (ss : Int32) (sp : Int32) (ig : Int32) (lf : Int32) (ac : Int32) (row : Nat → Int32) (kpt : Nat → Int32) (isk : Nat → Int32) (p0 : Int32) (sz : Nat) : Met l yX8_restore wsX8_restore rmX8_restore (va_Pc [.ref mo, .int p0] (fcB D tc [(mo, .inr (8, [.int rf, .ref sc, .int ss, .int sp, .int ig, .int lf, .ref rd, .ref nw, .ref tr, .ref di, .int ac, .ref kp, .ref ik])), (nw, .inl (tc 0, 357, .inl row)), (kp, .inl (tc 0, 714, .inl kpt)), (ik, .inl (tc 2, 2, .inl isk))] sz)) (va_Qi (fun (r : Int32) (u : Int32 × Int32 × (Nat → Int32)) => mX8_restore rf ss sp ig lf ac row kpt isk p0 = (r, u)) (fun u t => fcO D (va_A [(mo, .inr (8, [.int rf, .ref sc, .int ss, .int sp, .int ig, .int lf, .ref rd, .ref nw, .ref tr, .ref di, .int ac, .ref kp, .ref ik])), (nw, .inl (tc 0, 357, .inl row)), (kp, .inl (tc 0, 714, .inl kpt)), (ik, .inl (tc 2, 2, .inl isk))] sz) ((fun (u : Int32 × Int32 × (Nat → Int32)) => [(mo, .inr (8, [.int (u.1), .ref sc, .int ss, .int sp, .int ig, .int lf, .ref rd, .ref nw, .ref tr, .ref di, .int (u.2.1), .ref kp, .ref ik])), (nw, .inl (tc 0, 357, .inl (u.2.2))), (kp, .inl (tc 0, 714, .inl kpt)), (ik, .inl (tc 2, 2, .inl isk))]) u) t) (va_A [(mo, .inr (8, [.int rf, .ref sc, .int ss, .int sp, .int ig, .int lf, .ref rd, .ref nw, .ref tr, .ref di, .int ac, .ref kp, .ref ik])), (nw, .inl (tc 0, 357, .inl row)), (kp, .inl (tc 0, 714, .inl kpt)), (ik, .inl (tc 2, 2, .inl isk))] sz)) 0 0 (va_A [(mo, .inr (8, [.int rf, .ref sc, .int ss, .int sp, .int ig, .int lf, .ref rd, .ref nw, .ref tr, .ref di, .int ac, .ref kp, .ref ik])), (nw, .inl (tc 0, 357, .inl row)), (kp, .inl (tc 0, 714, .inl kpt)), (ik, .inl (tc 2, 2, .inl isk))] sz) := by
  refine fc_ofWi (own := RX8) (cc := cX8_restore) (maxL := 2) (W1 := (fun (u : Int32 × Int32 × (Nat → Int32)) => [(mo, .inr (8, [.int (u.1), .ref sc, .int ss, .int sp, .int ig, .int lf, .ref rd, .ref nw, .ref tr, .ref di, .int (u.2.1), .ref kp, .ref ik])), (nw, .inl (tc 0, 357, .inl (u.2.2))), (kp, .inl (tc 0, 714, .inl kpt)), (ik, .inl (tc 2, 2, .inl isk))])) rfl (by decide) rfl (Nat.le_of_ble_eq_true rfl) ?_
  intro p e s m args below meth c A Q hx hb hml hown hts hK hE hP hD hS hA hin hret ls hl
  have hl : lv_has ls 2 [(0, .ref mo), (1, .int p0)] := hl
  refine lv_aload_n hx hb dX8_restore_0 rfl (lv_at hl 0 rfl) ?_
  refine lv_iload_n hx hb dX8_restore_1 rfl (lv_at hl 1 rfl) ?_
  refine lv_i2l hx hb dX8_restore_2 rfl ?_
  refine lv_lconst (v := 0) hx hb dX8_restore_3 (by decide) ?_
  refine lv_lconst (v := 1) hx hb dX8_restore_4 (by decide) ?_
  refine fc_goi (isC := []) (isR := [0, 1, 2, 3]) (wc := []) (wr := [(mo, .inr (8, [.int rf, .ref sc, .int ss, .int sp, .int ig, .int lf, .ref rd, .ref nw, .ref tr, .ref di, .int ac, .ref kp, .ref ik])), (nw, .inl (tc 0, 357, .inl row)), (kp, .inl (tc 0, 714, .inl kpt)), (ik, .inl (tc 2, 2, .inl isk))]) hP hD hS hA rfl rfl (by decide) (by decide) (fc_runS (isC := []) (As := [.long p0.toInt64, .long 0, .long 1]) (rest := [.ref mo]) hx hb hml hown hts hK hE hP hD hS hA rfl (by decide) (c_X8_in l D tc p0.toInt64 0 1 _ ) (cwS 3 hts gX8_restore_X8_in rfl rfl rfl hd_X8_in ⟨Nat.le_of_ble_eq_true rfl, Nat.le_of_ble_eq_true rfl⟩) rfl hl.1 rfl (Nat.le_of_ble_eq_true rfl) dX8_restore_5 ⟨Nat.le_of_ble_eq_true rfl, Nat.le_of_ble_eq_true rfl⟩) (fun r_1 u_1 H locs hw_1 hP hD hS => ?_)
  try dsimp only at hw_1
  have hP : va_P D vwCl [(mo, .inr (8, [.int rf, .ref sc, .int ss, .int sp, .int ig, .int lf, .ref rd, .ref nw, .ref tr, .ref di, .int ac, .ref kp, .ref ik])), (nw, .inl (tc 0, 357, .inl row)), (kp, .inl (tc 0, 714, .inl kpt)), (ik, .inl (tc 2, 2, .inl isk))] H := hP
  have hD : va_D A [(mo, .inr (8, [.int rf, .ref sc, .int ss, .int sp, .int ig, .int lf, .ref rd, .ref nw, .ref tr, .ref di, .int ac, .ref kp, .ref ik])), (nw, .inl (tc 0, 357, .inl row)), (kp, .inl (tc 0, 714, .inl kpt)), (ik, .inl (tc 2, 2, .inl isk))] := hD
  have hi_1 := fx_in3 hw_1 (A := p0.toInt) (B := 0) (C := 1) (Int32.toInt_toInt64 _) (by decide) (by decide)
  refine lv_if_ne (tgt := 15) hx hb dX8_restore_8 (by decide) (fun c_2 => ?_) (fun c_2 => ?_)
  · have hj_1 := hi_1.resolve_left c_2
    refine lv_aload_n hx hb dX8_restore_15 rfl (lv_at hl 0 rfl) ?_
    refine va_get (D := D) (ci := 8) (v := .ref ik) (C := RX8) (T := TX8) (N := 13) hx hb hts iX8_restore_X8 hown hK hP 0 rfl rfl 12 (by decide) (hts (.fieldLink RX8 28 "FrameCardModel" "isKept" "[Z") (by decide +kernel)) (fun _ h9 => h9) rfl dX8_restore_16 ?_
    refine lv_iload_n hx hb dX8_restore_19 rfl (lv_at hl 1 rfl) ?_
    refine va_zald (D := D) hx hb hK hP 3 2 rfl rfl (by have l_0 : (0 : Int32).toInt = 0 := (by decide); have l_1 : (1 : Int32).toInt = 1 := (by decide); have l_2 : (2 : Int32).toInt = 2 := (by decide); have l_3 : (3 : Int32).toInt = 3 := (by decide); have l_4 : (4 : Int32).toInt = 4 := (by decide); have qc_2 := c_2; (try simp only [fc_le, fc_lt, fc_eq] at qc_2); have qhj_1 := hj_1; (try simp only [fc_le, fc_lt, fc_eq] at qhj_1); rw [vp_in_iff]; omega) dX8_restore_20 ?_
    refine lv_if_eq (tgt := 28) hx hb dX8_restore_21 (by decide) (fun c_3 => ?_) (fun c_3 => ?_)
    · refine lv_iconst (v := 2) hx hb dX8_restore_28 (by decide) ?_
      refine fc_goi (isC := [0]) (isR := [1, 2, 3]) (wc := [(mo, .inr (8, [.int rf, .ref sc, .int ss, .int sp, .int ig, .int lf, .ref rd, .ref nw, .ref tr, .ref di, .int ac, .ref kp, .ref ik]))]) (wr := [(nw, .inl (tc 0, 357, .inl row)), (kp, .inl (tc 0, 714, .inl kpt)), (ik, .inl (tc 2, 2, .inl isk))]) hP hD hS hA rfl rfl (by decide) (by decide) (fc_runV (isC := [0]) (As := [.int 2]) (rest := []) hx hb hml hown hts hK hE hP hD hS hA rfl (by decide) (c_X8_refused l D tc mo sc rd nw tr di kp ik rf ss sp ig lf ac 2 _ ) (cwV 1 hts gX8_restore_X8_refused rfl rfl rfl hd_X8_refused ⟨Nat.le_of_ble_eq_true rfl, Nat.le_of_ble_eq_true rfl⟩) (ci := 8) rfl rfl rfl rfl hl.1 rfl (Nat.le_of_ble_eq_true rfl) dX8_restore_29 ⟨Nat.le_of_ble_eq_true rfl, Nat.le_of_ble_eq_true rfl⟩) (fun r_4 u_4 H locs hw_4 hP hD hS => ?_)
      obtain ⟨rf_4, rfl⟩ : ∃ z, z = u_4 := ⟨_, rfl⟩
      obtain ⟨z1_4, z2_4⟩ := fx_ref2 hw_4
      subst z1_4
      subst z2_4
      have hP : va_P D vwCl [(nw, .inl (tc 0, 357, .inl row)), (kp, .inl (tc 0, 714, .inl kpt)), (ik, .inl (tc 2, 2, .inl isk)), (mo, .inr (8, [.int 2, .ref sc, .int ss, .int sp, .int ig, .int lf, .ref rd, .ref nw, .ref tr, .ref di, .int ac, .ref kp, .ref ik]))] H := hP
      have hD : va_D A [(nw, .inl (tc 0, 357, .inl row)), (kp, .inl (tc 0, 714, .inl kpt)), (ik, .inl (tc 2, 2, .inl isk)), (mo, .inr (8, [.int 2, .ref sc, .int ss, .int sp, .int ig, .int lf, .ref rd, .ref nw, .ref tr, .ref di, .int ac, .ref kp, .ref ik]))] := hD
      refine lv_if_eq (tgt := 37) hx hb dX8_restore_32 (by decide) (fun c_5 => ?_) (fun c_5 => ?_)
      · exact absurd c_5 (by decide)
      · refine lv_iconst (v := 0) hx hb dX8_restore_35 (by decide) ?_
        exact hret _ _ (0) (2, ac, row) _ _ (by rw [mX8_restore]; (try dsimp only); rw [hw_1]; (try dsimp only); rw [if_neg c_2]; rw [if_pos c_3]; (first | done | rfl)) (hP.sub [3, 0, 1, 2] rfl) (hD.sub [3, 0, 1, 2] (by decide) rfl) hS dX8_restore_36
    · refine lv_iconst (v := 0) hx hb dX8_restore_24 (by decide) ?_
      refine lv_goto (tgt := 29) hx hb dX8_restore_25 (by decide) ?_
      refine fc_goi (isC := [0]) (isR := [1, 2, 3]) (wc := [(mo, .inr (8, [.int rf, .ref sc, .int ss, .int sp, .int ig, .int lf, .ref rd, .ref nw, .ref tr, .ref di, .int ac, .ref kp, .ref ik]))]) (wr := [(nw, .inl (tc 0, 357, .inl row)), (kp, .inl (tc 0, 714, .inl kpt)), (ik, .inl (tc 2, 2, .inl isk))]) hP hD hS hA rfl rfl (by decide) (by decide) (fc_runV (isC := [0]) (As := [.int 0]) (rest := []) hx hb hml hown hts hK hE hP hD hS hA rfl (by decide) (c_X8_refused l D tc mo sc rd nw tr di kp ik rf ss sp ig lf ac 0 _ ) (cwV 1 hts gX8_restore_X8_refused rfl rfl rfl hd_X8_refused ⟨Nat.le_of_ble_eq_true rfl, Nat.le_of_ble_eq_true rfl⟩) (ci := 8) rfl rfl rfl rfl hl.1 rfl (Nat.le_of_ble_eq_true rfl) dX8_restore_29 ⟨Nat.le_of_ble_eq_true rfl, Nat.le_of_ble_eq_true rfl⟩) (fun r_6 u_6 H locs hw_6 hP hD hS => ?_)
      obtain ⟨rf_6, rfl⟩ : ∃ z, z = u_6 := ⟨_, rfl⟩
      obtain ⟨z1_6, z2_6⟩ := fx_ref0 hw_6
      subst z1_6
      subst z2_6
      have hP : va_P D vwCl [(nw, .inl (tc 0, 357, .inl row)), (kp, .inl (tc 0, 714, .inl kpt)), (ik, .inl (tc 2, 2, .inl isk)), (mo, .inr (8, [.int 0, .ref sc, .int ss, .int sp, .int ig, .int lf, .ref rd, .ref nw, .ref tr, .ref di, .int ac, .ref kp, .ref ik]))] H := hP
      have hD : va_D A [(nw, .inl (tc 0, 357, .inl row)), (kp, .inl (tc 0, 714, .inl kpt)), (ik, .inl (tc 2, 2, .inl isk)), (mo, .inr (8, [.int 0, .ref sc, .int ss, .int sp, .int ig, .int lf, .ref rd, .ref nw, .ref tr, .ref di, .int ac, .ref kp, .ref ik]))] := hD
      refine lv_if_eq (tgt := 37) hx hb dX8_restore_32 (by decide) (fun c_7 => ?_) (fun c_7 => ?_)
      · refine lv_aload_n hx hb dX8_restore_37 rfl (lv_at hl 0 rfl) ?_
        refine va_get (D := D) (ci := 8) (v := .ref kp) (C := RX8) (T := TX8) (N := 13) hx hb hts iX8_restore_X8 hown hK hP 3 rfl rfl 11 (by decide) (hts (.fieldLink RX8 25 "FrameCardModel" "kept" "[I") (by decide +kernel)) (fun _ h9 => h9) rfl dX8_restore_38 ?_
        refine lv_sipush (v := 357) hx hb dX8_restore_41 (by decide) ?_
        refine lv_iload_n hx hb dX8_restore_44 rfl (lv_at hl 1 rfl) ?_
        refine lv_imul hx hb dX8_restore_45 ?_
        refine lv_aload_n hx hb dX8_restore_46 rfl (lv_at hl 0 rfl) ?_
        refine va_get (D := D) (ci := 8) (v := .ref nw) (C := RX8) (T := TX8) (N := 13) hx hb hts iX8_restore_X8 hown hK hP 3 rfl rfl 7 (by decide) (hts (.fieldLink RX8 16 "FrameCardModel" "now" "[I") (by decide +kernel)) (fun _ h9 => h9) rfl dX8_restore_47 ?_
        refine lv_iconst (v := 0) hx hb dX8_restore_50 (by decide) ?_
        refine lv_sipush (v := 357) hx hb dX8_restore_51 (by decide) ?_
        have b1 := fc_kmul (x := p0) (k := 357) (n := 357) (by decide) (by omega) (by omega)
        refine fc_gov (isC := [1, 0]) (isR := [2, 3]) (wc := [(kp, .inl (tc 0, 714, .inl kpt)), (nw, .inl (tc 0, 357, .inl row))]) (wr := [(ik, .inl (tc 2, 2, .inl isk)), (mo, .inr (8, [.int 0, .ref sc, .int ss, .int sp, .int ig, .int lf, .ref rd, .ref nw, .ref tr, .ref di, .int ac, .ref kp, .ref ik]))]) hP hD hS hA rfl rfl (by decide) (by decide) (fc_runS (isC := [1, 0]) (As := [.ref kp, .int (357 * p0), .ref nw, .int 0, .int 357]) (rest := []) hx hb hml hown hts hK hE hP hD hS hA rfl (by decide) (c_X8_copy l D tc kp 714 kpt nw 357 row (357 * p0) 0 357 _ (by have l_0 : (0 : Int32).toInt = 0 := (by decide); have l_1 : (1 : Int32).toInt = 1 := (by decide); have l_2 : (2 : Int32).toInt = 2 := (by decide); have l_3 : (3 : Int32).toInt = 3 := (by decide); have l_357 : (357 : Int32).toInt = 357 := (by decide); have l_4 : (4 : Int32).toInt = 4 := (by decide); have l_714 : (714 : Int32).toInt = 714 := (by decide); have qc_2 := c_2; (try simp only [fc_le, fc_lt, fc_eq] at qc_2); have qc_3 := c_3; (try simp only [fc_le, fc_lt, fc_eq] at qc_3); have a_1 := fc_kmul (x := p0) (k := 357) (n := 357) (by decide) (by omega) (by omega); have qhj_1 := hj_1; (try simp only [fc_le, fc_lt, fc_eq] at qhj_1); (try simp only [fc_le, fc_lt, fc_eq]); omega) (by have l_0 : (0 : Int32).toInt = 0 := (by decide); have l_1 : (1 : Int32).toInt = 1 := (by decide); have l_2 : (2 : Int32).toInt = 2 := (by decide); have l_3 : (3 : Int32).toInt = 3 := (by decide); have l_357 : (357 : Int32).toInt = 357 := (by decide); have l_4 : (4 : Int32).toInt = 4 := (by decide); have l_714 : (714 : Int32).toInt = 714 := (by decide); have qc_2 := c_2; (try simp only [fc_le, fc_lt, fc_eq] at qc_2); have qc_3 := c_3; (try simp only [fc_le, fc_lt, fc_eq] at qc_3); have a_1 := fc_kmul (x := p0) (k := 357) (n := 357) (by decide) (by omega) (by omega); have qhj_1 := hj_1; (try simp only [fc_le, fc_lt, fc_eq] at qhj_1); (try simp only [fc_le, fc_lt, fc_eq]); omega) (by have l_0 : (0 : Int32).toInt = 0 := (by decide); have l_1 : (1 : Int32).toInt = 1 := (by decide); have l_2 : (2 : Int32).toInt = 2 := (by decide); have l_3 : (3 : Int32).toInt = 3 := (by decide); have l_357 : (357 : Int32).toInt = 357 := (by decide); have l_4 : (4 : Int32).toInt = 4 := (by decide); have l_714 : (714 : Int32).toInt = 714 := (by decide); have qc_2 := c_2; (try simp only [fc_le, fc_lt, fc_eq] at qc_2); have qc_3 := c_3; (try simp only [fc_le, fc_lt, fc_eq] at qc_3); have a_1 := fc_kmul (x := p0) (k := 357) (n := 357) (by decide) (by omega) (by omega); have qhj_1 := hj_1; (try simp only [fc_le, fc_lt, fc_eq] at qhj_1); (try simp only [fc_le, fc_lt, fc_eq]); omega)) (cwS 5 hts gX8_restore_X8_copy rfl rfl rfl hd_X8_copy ⟨Nat.le_of_ble_eq_true rfl, Nat.le_of_ble_eq_true rfl⟩) rfl hl.1 rfl (Nat.le_of_ble_eq_true rfl) dX8_restore_54 ⟨Nat.le_of_ble_eq_true rfl, Nat.le_of_ble_eq_true rfl⟩) (fun u_8 H locs hw_8 hP hD hS => ?_)
        obtain ⟨g_8, rfl⟩ : ∃ z, z = u_8 := ⟨_, rfl⟩
        try dsimp only at hw_8
        have hP : va_P D vwCl [(ik, .inl (tc 2, 2, .inl isk)), (mo, .inr (8, [.int 0, .ref sc, .int ss, .int sp, .int ig, .int lf, .ref rd, .ref nw, .ref tr, .ref di, .int ac, .ref kp, .ref ik])), (kp, .inl (tc 0, 714, .inl kpt)), (nw, .inl (tc 0, 357, .inl g_8))] H := hP
        have hD : va_D A [(ik, .inl (tc 2, 2, .inl isk)), (mo, .inr (8, [.int 0, .ref sc, .int ss, .int sp, .int ig, .int lf, .ref rd, .ref nw, .ref tr, .ref di, .int ac, .ref kp, .ref ik])), (kp, .inl (tc 0, 714, .inl kpt)), (nw, .inl (tc 0, 357, .inl g_8))] := hD
        refine lv_aload_n hx hb dX8_restore_57 rfl (lv_at hl 0 rfl) ?_
        refine lv_iconst (v := 0) hx hb dX8_restore_58 (by decide) ?_
        refine va_put (D := D) (ci := 8) (v := .int 0) (ty := .int) (C := RX8) (T := TX8) (N := 13) hx hb hts iX8_restore_X8 tyX8 tyX8_ok nmX8 hown hK hP hD hS 1 rfl rfl 10 (by decide) (hts (.fieldLink RX8 42 "FrameCardModel" "acts" "I") (by decide +kernel)) (fun _ h9 => h9) rfl (by decide +kernel) rfl rfl (Nat.le_of_ble_eq_true rfl) dX8_restore_59 (fun H locs hP hD hS => ?_)
        have hP : va_P D vwCl [(ik, .inl (tc 2, 2, .inl isk)), (mo, .inr (8, [.int 0, .ref sc, .int ss, .int sp, .int ig, .int lf, .ref rd, .ref nw, .ref tr, .ref di, .int 0, .ref kp, .ref ik])), (kp, .inl (tc 0, 714, .inl kpt)), (nw, .inl (tc 0, 357, .inl g_8))] H := hP
        have hD : va_D A [(ik, .inl (tc 2, 2, .inl isk)), (mo, .inr (8, [.int 0, .ref sc, .int ss, .int sp, .int ig, .int lf, .ref rd, .ref nw, .ref tr, .ref di, .int 0, .ref kp, .ref ik])), (kp, .inl (tc 0, 714, .inl kpt)), (nw, .inl (tc 0, 357, .inl g_8))] := hD
        refine lv_aload_n hx hb dX8_restore_62 rfl (lv_at hl 0 rfl) ?_
        refine va_get (D := D) (ci := 8) (v := .ref nw) (C := RX8) (T := TX8) (N := 13) hx hb hts iX8_restore_X8 hown hK hP 1 rfl rfl 7 (by decide) (hts (.fieldLink RX8 16 "FrameCardModel" "now" "[I") (by decide +kernel)) (fun _ h9 => h9) rfl dX8_restore_63 ?_
        refine lv_bipush (v := 16) hx hb dX8_restore_66 (by decide) ?_
        refine va_iald (D := D) hx hb hK hP 3 0 rfl rfl (vp_in_iff.mpr (by decide)) dX8_restore_68 ?_
        exact hret _ _ (g_8 (16 : Int32).toNatClampNeg) (0, 0, g_8) _ _ (by rw [mX8_restore]; (try dsimp only); rw [hw_1]; (try dsimp only); rw [if_neg c_2]; rw [if_neg c_3]; rw [hw_8]; (try dsimp only); (first | done | rfl)) (hP.sub [1, 3, 2, 0] rfl) (hD.sub [1, 3, 2, 0] (by decide) rfl) hS dX8_restore_69
      · exact absurd (by decide) c_7
  · refine lv_iconst (v := 1) hx hb dX8_restore_11 (by decide) ?_
    refine lv_goto (tgt := 29) hx hb dX8_restore_12 (by decide) ?_
    refine fc_goi (isC := [0]) (isR := [1, 2, 3]) (wc := [(mo, .inr (8, [.int rf, .ref sc, .int ss, .int sp, .int ig, .int lf, .ref rd, .ref nw, .ref tr, .ref di, .int ac, .ref kp, .ref ik]))]) (wr := [(nw, .inl (tc 0, 357, .inl row)), (kp, .inl (tc 0, 714, .inl kpt)), (ik, .inl (tc 2, 2, .inl isk))]) hP hD hS hA rfl rfl (by decide) (by decide) (fc_runV (isC := [0]) (As := [.int 1]) (rest := []) hx hb hml hown hts hK hE hP hD hS hA rfl (by decide) (c_X8_refused l D tc mo sc rd nw tr di kp ik rf ss sp ig lf ac 1 _ ) (cwV 1 hts gX8_restore_X8_refused rfl rfl rfl hd_X8_refused ⟨Nat.le_of_ble_eq_true rfl, Nat.le_of_ble_eq_true rfl⟩) (ci := 8) rfl rfl rfl rfl hl.1 rfl (Nat.le_of_ble_eq_true rfl) dX8_restore_29 ⟨Nat.le_of_ble_eq_true rfl, Nat.le_of_ble_eq_true rfl⟩) (fun r_9 u_9 H locs hw_9 hP hD hS => ?_)
    obtain ⟨rf_9, rfl⟩ : ∃ z, z = u_9 := ⟨_, rfl⟩
    obtain ⟨z1_9, z2_9⟩ := fx_ref1 hw_9
    subst z1_9
    subst z2_9
    have hP : va_P D vwCl [(nw, .inl (tc 0, 357, .inl row)), (kp, .inl (tc 0, 714, .inl kpt)), (ik, .inl (tc 2, 2, .inl isk)), (mo, .inr (8, [.int 1, .ref sc, .int ss, .int sp, .int ig, .int lf, .ref rd, .ref nw, .ref tr, .ref di, .int ac, .ref kp, .ref ik]))] H := hP
    have hD : va_D A [(nw, .inl (tc 0, 357, .inl row)), (kp, .inl (tc 0, 714, .inl kpt)), (ik, .inl (tc 2, 2, .inl isk)), (mo, .inr (8, [.int 1, .ref sc, .int ss, .int sp, .int ig, .int lf, .ref rd, .ref nw, .ref tr, .ref di, .int ac, .ref kp, .ref ik]))] := hD
    refine lv_if_eq (tgt := 37) hx hb dX8_restore_32 (by decide) (fun c_10 => ?_) (fun c_10 => ?_)
    · exact absurd c_10 (by decide)
    · refine lv_iconst (v := 0) hx hb dX8_restore_35 (by decide) ?_
      exact hret _ _ (0) (1, ac, row) _ _ (by rw [mX8_restore]; (try dsimp only); rw [hw_1]; (try dsimp only); rw [if_pos c_2]; (first | done | rfl)) (hP.sub [3, 0, 1, 2] rfl) (hD.sub [3, 0, 1, 2] (by decide) rfl) hS dX8_restore_36
