/-! The reference: simulations -/
--# X8_simulate
noncomputable def mX8_simulate_C21 (x4h40 : Int64) (x7h40 : Int32) (rn_9 : Int32) (ih_40 : Int64 → Int32 → Int32 → (Nat → Int32) → Int32 × Int32 × (Nat → Int32)) (z_21 : Int32 × (Nat → Int32)) : Int32 × Int32 × (Nat → Int32) :=
  ih_40 ((x4h40 * 6364136223846793005) + 1442695040888963407) ((rn_9 / 64) - (rn_9 / 64) / 1000000 * 1000000) (x7h40 + 1) (z_21.2)
noncomputable def mX8_simulate_C23 (x4h40 : Int64) (x7h40 : Int32) (rn_9 : Int32) (ih_40 : Int64 → Int32 → Int32 → (Nat → Int32) → Int32 × Int32 × (Nat → Int32)) (z_23 : Int32 × (Nat → Int32)) : Int32 × Int32 × (Nat → Int32) :=
  ih_40 ((x4h40 * 6364136223846793005) + 1442695040888963407) ((rn_9 / 64) - (rn_9 / 64) / 1000000 * 1000000) (x7h40 + 1) (z_23.2)
noncomputable def mX8_simulate_C22 (x4h40 : Int64) (x7h40 : Int32) (rn_9 : Int32) (ih_40 : Int64 → Int32 → Int32 → (Nat → Int32) → Int32 × Int32 × (Nat → Int32)) (z_22 : Int32 × (Nat → Int32)) : Int32 × Int32 × (Nat → Int32) :=
  mX8_simulate_C23 x4h40 x7h40 rn_9 ih_40 (mX8_tick (z_22.2))
noncomputable def mX8_simulate_C17 (x4h40 : Int64) (x6h40 : Int32) (x7h40 : Int32) (rn_9 : Int32) (ih_40 : Int64 → Int32 → Int32 → (Nat → Int32) → Int32 × Int32 × (Nat → Int32)) (z_17 : Int32 × (Nat → Int32)) : Int32 × Int32 × (Nat → Int32) :=
  ih_40 ((x4h40 * 6364136223846793005) + 1442695040888963407) (((x6h40 / 10) * 10) + ((rn_9 / 64) - (rn_9 / 64) / 10 * 10)) (x7h40 + 1) (z_17.2)
noncomputable def mX8_simulate_C19 (x4h40 : Int64) (x6h40 : Int32) (x7h40 : Int32) (rn_9 : Int32) (ih_40 : Int64 → Int32 → Int32 → (Nat → Int32) → Int32 × Int32 × (Nat → Int32)) (z_19 : Int32 × (Nat → Int32)) : Int32 × Int32 × (Nat → Int32) :=
  ih_40 ((x4h40 * 6364136223846793005) + 1442695040888963407) (((x6h40 / 10) * 10) + ((rn_9 / 64) - (rn_9 / 64) / 10 * 10)) (x7h40 + 1) (z_19.2)
noncomputable def mX8_simulate_C18 (x4h40 : Int64) (x6h40 : Int32) (x7h40 : Int32) (rn_9 : Int32) (ih_40 : Int64 → Int32 → Int32 → (Nat → Int32) → Int32 × Int32 × (Nat → Int32)) (z_18 : Int32 × (Nat → Int32)) : Int32 × Int32 × (Nat → Int32) :=
  mX8_simulate_C19 x4h40 x6h40 x7h40 rn_9 ih_40 (mX8_tick (z_18.2))
noncomputable def mX8_simulate_C13 (x4h40 : Int64) (x6h40 : Int32) (x7h40 : Int32) (ih_40 : Int64 → Int32 → Int32 → (Nat → Int32) → Int32 × Int32 × (Nat → Int32)) (z_13 : Int32 × (Nat → Int32)) : Int32 × Int32 × (Nat → Int32) :=
  ih_40 ((x4h40 * 6364136223846793005) + 1442695040888963407) x6h40 (x7h40 + 1) (z_13.2)
noncomputable def mX8_simulate_C15 (x4h40 : Int64) (x6h40 : Int32) (x7h40 : Int32) (ih_40 : Int64 → Int32 → Int32 → (Nat → Int32) → Int32 × Int32 × (Nat → Int32)) (z_15 : Int32 × (Nat → Int32)) : Int32 × Int32 × (Nat → Int32) :=
  ih_40 ((x4h40 * 6364136223846793005) + 1442695040888963407) x6h40 (x7h40 + 1) (z_15.2)
noncomputable def mX8_simulate_C14 (x4h40 : Int64) (x6h40 : Int32) (x7h40 : Int32) (ih_40 : Int64 → Int32 → Int32 → (Nat → Int32) → Int32 × Int32 × (Nat → Int32)) (z_14 : Int32 × (Nat → Int32)) : Int32 × Int32 × (Nat → Int32) :=
  mX8_simulate_C15 x4h40 x6h40 x7h40 ih_40 (mX8_tick (z_14.2))
noncomputable def mX8_simulate_S40 (ss : Int32) (sp : Int32) (ig : Int32) (lf : Int32) (ac : Int32) (row : Nat → Int32) (p0 : Int64) (p1 : Int32) (ih_40 : Int64 → Int32 → Int32 → (Nat → Int32) → Int32 × Int32 × (Nat → Int32)) (x4h40 : Int64) (x6h40 : Int32) (x7h40 : Int32) (trowh40 : Nat → Int32) : Int32 × Int32 × (Nat → Int32) :=
  if p1 ≤ x7h40 then
    ((((10000 * ((trowh40 (6 : Int32).toNatClampNeg) - (row (6 : Int32).toNatClampNeg))) + (100 * ((trowh40 (7 : Int32).toNatClampNeg) - (row (7 : Int32).toNatClampNeg)))) + (trowh40 (16 : Int32).toNatClampNeg)), 0, trowh40)
  else
    let rn_9 := ((((x4h40 * 6364136223846793005) + 1442695040888963407).toUInt64 >>> ((33 : Int32).toInt64.toUInt64 &&& Int64.toUInt64 63)).toInt64 : Int64).toInt32
    if (rn_9 - rn_9 / 4 * 4) = 0 then
      if 3 ≤ ((rn_9 / 4) - (rn_9 / 4) / 4 * 4) then
        mX8_simulate_C21 x4h40 x7h40 rn_9 ih_40 (mX8_tick trowh40)
      else
        mX8_simulate_C22 x4h40 x7h40 rn_9 ih_40 (mX8_shootIn trowh40 ((rn_9 / 64) - (rn_9 / 64) / 1000000 * 1000000))
    else
      if (rn_9 - rn_9 / 4 * 4) = 1 then
        if 3 ≤ ((rn_9 / 4) - (rn_9 / 4) / 4 * 4) then
          mX8_simulate_C17 x4h40 x6h40 x7h40 rn_9 ih_40 (mX8_tick trowh40)
        else
          mX8_simulate_C18 x4h40 x6h40 x7h40 rn_9 ih_40 (mX8_shootIn trowh40 (((x6h40 / 10) * 10) + ((rn_9 / 64) - (rn_9 / 64) / 10 * 10)))
      else
        if 3 ≤ ((rn_9 / 4) - (rn_9 / 4) / 4 * 4) then
          mX8_simulate_C13 x4h40 x6h40 x7h40 ih_40 (mX8_tick trowh40)
        else
          mX8_simulate_C14 x4h40 x6h40 x7h40 ih_40 (mX8_shootIn trowh40 x6h40)
noncomputable def mX8_simulate_L40 (ss : Int32) (sp : Int32) (ig : Int32) (lf : Int32) (ac : Int32) (row : Nat → Int32) (p0 : Int64) (p1 : Int32) (k : Nat) : Int64 → Int32 → Int32 → (Nat → Int32) → Int32 × Int32 × (Nat → Int32) := Nat.rec (motive := fun _ => Int64 → Int32 → Int32 → (Nat → Int32) → Int32 × Int32 × (Nat → Int32)) (fun x4h40 x6h40 x7h40 trowh40 => (0, 0, trowh40)) (fun _ ih => mX8_simulate_S40 ss sp ig lf ac row p0 p1 ih) k
theorem mX8_simulate_L40_z (ss : Int32) (sp : Int32) (ig : Int32) (lf : Int32) (ac : Int32) (row : Nat → Int32) (p0 : Int64) (p1 : Int32) (x4h40 : Int64) (x6h40 : Int32) (x7h40 : Int32) (trowh40 : Nat → Int32) : mX8_simulate_L40 ss sp ig lf ac row p0 p1 0 x4h40 x6h40 x7h40 trowh40 = (0, 0, trowh40) := rfl
theorem mX8_simulate_L40_s (ss : Int32) (sp : Int32) (ig : Int32) (lf : Int32) (ac : Int32) (row : Nat → Int32) (p0 : Int64) (p1 : Int32) (k : Nat) (x4h40 : Int64) (x6h40 : Int32) (x7h40 : Int32) (trowh40 : Nat → Int32) : mX8_simulate_L40 ss sp ig lf ac row p0 p1 (k + 1) x4h40 x6h40 x7h40 trowh40 = mX8_simulate_S40 ss sp ig lf ac row p0 p1 (mX8_simulate_L40 ss sp ig lf ac row p0 p1 k) x4h40 x6h40 x7h40 trowh40 := rfl
noncomputable def mX8_simulate (rf : Int32) (ss : Int32) (sp : Int32) (ig : Int32) (lf : Int32) (ac : Int32) (row : Nat → Int32) (trow : Nat → Int32) (p0 : Int64) (p1 : Int32) : Int32 × Int32 × (Nat → Int32) :=
  let r_1 := mX8_in p1.toInt64 1 99
  if r_1 = 0 then
    (0, 1, trow)
  else
    let trow_7 := mX8_tryIt 0 ss sp ig lf ac row trow
    mX8_simulate_L40 ss sp ig lf ac row p0 p1 100 p0 123456 0 trow_7
set_option maxRecDepth 20000 in
theorem iX8_simulate_X8 : ∀ w ∈ wsX80, w ∈ wsX8_simulate := by decide +kernel
abbrev rmX8_simulate : Room := { frames := 4, cells := 0, slots := 0, locals := 91 }
set_option maxHeartbeats 4000000 in
set_option maxRecDepth 100000 in
theorem c_X8_simulate (l : Launch) (D : va_G) (tc : Nat → ClassId) (mo : Nat) (sc : Nat) (rd : Nat) (nw : Nat) (tr : Nat) (di : Nat) (kp : Nat) (ik : Nat) (rf : Int32) (ss : Int32) (sp : Int32) (ig : Int32) (lf : Int32) (ac : Int32) (row : Nat → Int32) (trow : Nat → Int32) (p0 : Int64) (p1 : Int32) (sz : Nat) (hR : RXn 300 row) : Met l yX8_simulate wsX8_simulate rmX8_simulate (va_Pc [.ref mo, .long p0, .int p1] (fcB D tc [(mo, .inr (8, [.int rf, .ref sc, .int ss, .int sp, .int ig, .int lf, .ref rd, .ref nw, .ref tr, .ref di, .int ac, .ref kp, .ref ik])), (nw, .inl (tc 0, 357, .inl row)), (tr, .inl (tc 0, 357, .inl trow))] sz)) (va_Qi (fun (r : Int32) (u : Int32 × (Nat → Int32)) => mX8_simulate rf ss sp ig lf ac row trow p0 p1 = (r, u)) (fun u t => fcO D (va_A [(mo, .inr (8, [.int rf, .ref sc, .int ss, .int sp, .int ig, .int lf, .ref rd, .ref nw, .ref tr, .ref di, .int ac, .ref kp, .ref ik])), (nw, .inl (tc 0, 357, .inl row)), (tr, .inl (tc 0, 357, .inl trow))] sz) ((fun (u : Int32 × (Nat → Int32)) => [(mo, .inr (8, [.int (u.1), .ref sc, .int ss, .int sp, .int ig, .int lf, .ref rd, .ref nw, .ref tr, .ref di, .int ac, .ref kp, .ref ik])), (nw, .inl (tc 0, 357, .inl row)), (tr, .inl (tc 0, 357, .inl (u.2)))]) u) t) (va_A [(mo, .inr (8, [.int rf, .ref sc, .int ss, .int sp, .int ig, .int lf, .ref rd, .ref nw, .ref tr, .ref di, .int ac, .ref kp, .ref ik])), (nw, .inl (tc 0, 357, .inl row)), (tr, .inl (tc 0, 357, .inl trow))] sz)) 0 0 (va_A [(mo, .inr (8, [.int rf, .ref sc, .int ss, .int sp, .int ig, .int lf, .ref rd, .ref nw, .ref tr, .ref di, .int ac, .ref kp, .ref ik])), (nw, .inl (tc 0, 357, .inl row)), (tr, .inl (tc 0, 357, .inl trow))] sz) := by
  refine fc_ofWi (own := RX8) (cc := cX8_simulate) (maxL := 9) (W1 := (fun (u : Int32 × (Nat → Int32)) => [(mo, .inr (8, [.int (u.1), .ref sc, .int ss, .int sp, .int ig, .int lf, .ref rd, .ref nw, .ref tr, .ref di, .int ac, .ref kp, .ref ik])), (nw, .inl (tc 0, 357, .inl row)), (tr, .inl (tc 0, 357, .inl (u.2)))])) rfl (by decide) rfl (Nat.le_of_ble_eq_true rfl) ?_
  intro p e s m args below meth c A Q hx hb hml hown hts hK hE hP hD hS hA hin hret ls hl
  have hl : lv_has ls 9 [(0, .ref mo), (1, .long p0), (3, .int p1)] := hl
  refine lv_aload_n hx hb dX8_simulate_0 rfl (lv_at hl 0 rfl) ?_
  refine lv_iload_n hx hb dX8_simulate_1 rfl (lv_at hl 2 rfl) ?_
  refine lv_i2l hx hb dX8_simulate_2 rfl ?_
  refine lv_lconst (v := 1) hx hb dX8_simulate_3 (by decide) ?_
  refine lv_ldc2 (v := 99) hx hb hown (hts (.constantLong RX8 222 99) (by decide +kernel)) dX8_simulate_4 ?_
  refine fc_goi (isC := []) (isR := [0, 1, 2]) (wc := []) (wr := [(mo, .inr (8, [.int rf, .ref sc, .int ss, .int sp, .int ig, .int lf, .ref rd, .ref nw, .ref tr, .ref di, .int ac, .ref kp, .ref ik])), (nw, .inl (tc 0, 357, .inl row)), (tr, .inl (tc 0, 357, .inl trow))]) hP hD hS hA rfl rfl (by decide) (by decide) (fc_runS (isC := []) (As := [.long p1.toInt64, .long 1, .long 99]) (rest := [.ref mo]) hx hb hml hown hts hK hE hP hD hS hA rfl (by decide) (c_X8_in l D tc p1.toInt64 1 99 _ ) (cwS 3 hts gX8_simulate_X8_in rfl rfl rfl hd_X8_in ⟨Nat.le_of_ble_eq_true rfl, Nat.le_of_ble_eq_true rfl⟩) rfl hl.1 rfl (Nat.le_of_ble_eq_true rfl) dX8_simulate_7 ⟨Nat.le_of_ble_eq_true rfl, Nat.le_of_ble_eq_true rfl⟩) (fun r_1 u_1 H locs hw_1 hP hD hS => ?_)
  try dsimp only at hw_1
  have hP : va_P D vwCl [(mo, .inr (8, [.int rf, .ref sc, .int ss, .int sp, .int ig, .int lf, .ref rd, .ref nw, .ref tr, .ref di, .int ac, .ref kp, .ref ik])), (nw, .inl (tc 0, 357, .inl row)), (tr, .inl (tc 0, 357, .inl trow))] H := hP
  have hD : va_D A [(mo, .inr (8, [.int rf, .ref sc, .int ss, .int sp, .int ig, .int lf, .ref rd, .ref nw, .ref tr, .ref di, .int ac, .ref kp, .ref ik])), (nw, .inl (tc 0, 357, .inl row)), (tr, .inl (tc 0, 357, .inl trow))] := hD
  have hi_1 := fx_in3 hw_1 (A := p1.toInt) (B := 1) (C := 99) (Int32.toInt_toInt64 _) (by decide) (by decide)
  refine lv_if_eq (tgt := 17) hx hb dX8_simulate_10 (by decide) (fun c_2 => ?_) (fun c_2 => ?_)
  · refine lv_iconst (v := 1) hx hb dX8_simulate_17 (by decide) ?_
    refine fc_goi (isC := [0]) (isR := [1, 2]) (wc := [(mo, .inr (8, [.int rf, .ref sc, .int ss, .int sp, .int ig, .int lf, .ref rd, .ref nw, .ref tr, .ref di, .int ac, .ref kp, .ref ik]))]) (wr := [(nw, .inl (tc 0, 357, .inl row)), (tr, .inl (tc 0, 357, .inl trow))]) hP hD hS hA rfl rfl (by decide) (by decide) (fc_runV (isC := [0]) (As := [.int 1]) (rest := []) hx hb hml hown hts hK hE hP hD hS hA rfl (by decide) (c_X8_refused l D tc mo sc rd nw tr di kp ik rf ss sp ig lf ac 1 _ ) (cwV 1 hts gX8_simulate_X8_refused rfl rfl rfl hd_X8_refused ⟨Nat.le_of_ble_eq_true rfl, Nat.le_of_ble_eq_true rfl⟩) (ci := 8) rfl rfl rfl rfl hl.1 rfl (Nat.le_of_ble_eq_true rfl) dX8_simulate_18 ⟨Nat.le_of_ble_eq_true rfl, Nat.le_of_ble_eq_true rfl⟩) (fun r_3 u_3 H locs hw_3 hP hD hS => ?_)
    obtain ⟨rf_3, rfl⟩ : ∃ z, z = u_3 := ⟨_, rfl⟩
    obtain ⟨z1_3, z2_3⟩ := fx_ref1 hw_3
    subst z1_3
    subst z2_3
    have hP : va_P D vwCl [(nw, .inl (tc 0, 357, .inl row)), (tr, .inl (tc 0, 357, .inl trow)), (mo, .inr (8, [.int 1, .ref sc, .int ss, .int sp, .int ig, .int lf, .ref rd, .ref nw, .ref tr, .ref di, .int ac, .ref kp, .ref ik]))] H := hP
    have hD : va_D A [(nw, .inl (tc 0, 357, .inl row)), (tr, .inl (tc 0, 357, .inl trow)), (mo, .inr (8, [.int 1, .ref sc, .int ss, .int sp, .int ig, .int lf, .ref rd, .ref nw, .ref tr, .ref di, .int ac, .ref kp, .ref ik]))] := hD
    refine lv_if_eq (tgt := 26) hx hb dX8_simulate_21 (by decide) (fun c_4 => ?_) (fun c_4 => ?_)
    · exact absurd c_4 (by decide)
    · refine lv_iconst (v := 0) hx hb dX8_simulate_24 (by decide) ?_
      exact hret _ _ (0) (1, trow) _ _ (by rw [mX8_simulate]; rw [hw_1]; (try dsimp only); rw [if_pos c_2]; (first | done | rfl)) (hP.sub [2, 0, 1] rfl) (hD.sub [2, 0, 1] (by decide) rfl) hS dX8_simulate_25
  · have hj_1 := hi_1.resolve_left c_2
    refine lv_iconst (v := 0) hx hb dX8_simulate_13 (by decide) ?_
    refine lv_goto (tgt := 18) hx hb dX8_simulate_14 (by decide) ?_
    refine fc_goi (isC := [0]) (isR := [1, 2]) (wc := [(mo, .inr (8, [.int rf, .ref sc, .int ss, .int sp, .int ig, .int lf, .ref rd, .ref nw, .ref tr, .ref di, .int ac, .ref kp, .ref ik]))]) (wr := [(nw, .inl (tc 0, 357, .inl row)), (tr, .inl (tc 0, 357, .inl trow))]) hP hD hS hA rfl rfl (by decide) (by decide) (fc_runV (isC := [0]) (As := [.int 0]) (rest := []) hx hb hml hown hts hK hE hP hD hS hA rfl (by decide) (c_X8_refused l D tc mo sc rd nw tr di kp ik rf ss sp ig lf ac 0 _ ) (cwV 1 hts gX8_simulate_X8_refused rfl rfl rfl hd_X8_refused ⟨Nat.le_of_ble_eq_true rfl, Nat.le_of_ble_eq_true rfl⟩) (ci := 8) rfl rfl rfl rfl hl.1 rfl (Nat.le_of_ble_eq_true rfl) dX8_simulate_18 ⟨Nat.le_of_ble_eq_true rfl, Nat.le_of_ble_eq_true rfl⟩) (fun r_5 u_5 H locs hw_5 hP hD hS => ?_)
    obtain ⟨rf_5, rfl⟩ : ∃ z, z = u_5 := ⟨_, rfl⟩
    obtain ⟨z1_5, z2_5⟩ := fx_ref0 hw_5
    subst z1_5
    subst z2_5
    have hP : va_P D vwCl [(nw, .inl (tc 0, 357, .inl row)), (tr, .inl (tc 0, 357, .inl trow)), (mo, .inr (8, [.int 0, .ref sc, .int ss, .int sp, .int ig, .int lf, .ref rd, .ref nw, .ref tr, .ref di, .int ac, .ref kp, .ref ik]))] H := hP
    have hD : va_D A [(nw, .inl (tc 0, 357, .inl row)), (tr, .inl (tc 0, 357, .inl trow)), (mo, .inr (8, [.int 0, .ref sc, .int ss, .int sp, .int ig, .int lf, .ref rd, .ref nw, .ref tr, .ref di, .int ac, .ref kp, .ref ik]))] := hD
    refine lv_if_eq (tgt := 26) hx hb dX8_simulate_21 (by decide) (fun c_6 => ?_) (fun c_6 => ?_)
    · refine lv_aload_n hx hb dX8_simulate_26 rfl (lv_at hl 0 rfl) ?_
      refine fc_gov (isC := [2, 0, 1]) (isR := []) (wc := [(mo, .inr (8, [.int 0, .ref sc, .int ss, .int sp, .int ig, .int lf, .ref rd, .ref nw, .ref tr, .ref di, .int ac, .ref kp, .ref ik])), (nw, .inl (tc 0, 357, .inl row)), (tr, .inl (tc 0, 357, .inl trow))]) (wr := []) hP hD hS hA rfl rfl (by decide) (by decide) (fc_runV (isC := [2, 0, 1]) (As := []) (rest := []) hx hb hml hown hts hK hE hP hD hS hA rfl (by decide) (c_X8_tryIt l D tc mo sc rd nw tr di kp ik 0 ss sp ig lf ac row trow _ ) (cwV 0 hts gX8_simulate_X8_tryIt rfl rfl rfl hd_X8_tryIt ⟨Nat.le_of_ble_eq_true rfl, Nat.le_of_ble_eq_true rfl⟩) (ci := 8) rfl rfl rfl rfl hl.1 rfl (Nat.le_of_ble_eq_true rfl) dX8_simulate_27 ⟨Nat.le_of_ble_eq_true rfl, Nat.le_of_ble_eq_true rfl⟩) (fun u_7 H locs hw_7 hP hD hS => ?_)
      obtain ⟨trow_7, rfl⟩ : ∃ z, z = u_7 := ⟨_, rfl⟩
      try dsimp only at hw_7
      have hP : va_P D vwCl [(mo, .inr (8, [.int 0, .ref sc, .int ss, .int sp, .int ig, .int lf, .ref rd, .ref nw, .ref tr, .ref di, .int ac, .ref kp, .ref ik])), (nw, .inl (tc 0, 357, .inl row)), (tr, .inl (tc 0, 357, .inl trow_7))] H := hP
      have hD : va_D A [(mo, .inr (8, [.int 0, .ref sc, .int ss, .int sp, .int ig, .int lf, .ref rd, .ref nw, .ref tr, .ref di, .int ac, .ref kp, .ref ik])), (nw, .inl (tc 0, 357, .inl row)), (tr, .inl (tc 0, 357, .inl trow_7))] := hD
      have hx1 := (RX_tryIt hw_7 hR)
      refine lv_lload_n hx hb dX8_simulate_30 rfl (lv_at hl 1 rfl) ?_
      refine lv_lstore (lv' := [(4, .long p0), (0, .ref mo), (1, .long p0), (3, .int p1)]) hx hb dX8_simulate_31 hl (by decide) rfl (fun ls hl => ?_)
      refine lv_ldc (v := 123456) hx hb hown (hts (.constant RX8 224 123456) (by decide +kernel)) dX8_simulate_33 ?_
      refine lv_istore (lv' := [(6, .int 123456), (4, .long p0), (0, .ref mo), (1, .long p0), (3, .int p1)]) hx hb dX8_simulate_35 hl (by decide) rfl (fun ls hl => ?_)
      refine lv_iconst (v := 0) hx hb dX8_simulate_37 (by decide) ?_
      refine lv_istore (lv' := [(7, .int 0), (6, .int 123456), (4, .long p0), (0, .ref mo), (1, .long p0), (3, .int p1)]) hx hb dX8_simulate_38 hl (by decide) rfl (fun ls hl => ?_)
      have loop_40 : ∀ (k_40 : Nat) (i_40 : Nat) (x4h40 : Int64) (x6h40 : Int32) (x7h40 : Int32) (trowh40 : Nat → Int32) (hb_40 : x7h40 = nI i_40) (hm_40 : i_40 ≤ 99 ∧ 99 < i_40 + k_40) (hp_40 : 0 ≤ x6h40.toInt ∧ x6h40.toInt ≤ 999999) (hx_40 : RXn (2 * k_40) trowh40) (hI_40 : mX8_simulate rf ss sp ig lf ac row trow p0 p1 = mX8_simulate_L40 ss sp ig lf ac row p0 p1 k_40 x4h40 x6h40 x7h40 trowh40) (H : Heap) (locs : List Loc), va_P D vwCl [(mo, .inr (8, [.int 0, .ref sc, .int ss, .int sp, .int ig, .int lf, .ref rd, .ref nw, .ref tr, .ref di, .int ac, .ref kp, .ref ik])), (nw, .inl (tc 0, 357, .inl row)), (tr, .inl (tc 0, 357, .inl trowh40))] H → va_D A [(mo, .inr (8, [.int 0, .ref sc, .int ss, .int sp, .int ig, .int lf, .ref rd, .ref nw, .ref tr, .ref di, .int ac, .ref kp, .ref ik])), (nw, .inl (tc 0, 357, .inl row)), (tr, .inl (tc 0, 357, .inl trowh40))] → va_S A s.heap H locs → ∀ ls : Array Slot, lv_has ls 9 [(7, .int x7h40), (6, .int x6h40), (4, .long x4h40), (0, .ref mo), (1, .long p0), (3, .int p1)] → W p l e rmX8_simulate s m args below meth c H locs 0 0 Q (F0 m 40 ls []) := by
        intro k_40
        induction k_40 with
        | zero =>
          intro i_40 x4h40 x6h40 x7h40 trowh40 hb_40 hm_40 hp_40 hx_40 hI_40 H locs hP hD hS ls hl
          exact absurd hm_40 (by omega)
        | succ k_40 ih_40 =>
          intro i_40 x4h40 x6h40 x7h40 trowh40 hb_40 hm_40 hp_40 hx_40 hI_40 H locs hP hD hS ls hl
          have zz_40 := fc_nI (n := i_40) (by omega)
          rw [← hb_40] at zz_40
          refine lv_iload hx hb dX8_simulate_40 (lv_at hl 0 rfl) ?_
          refine lv_iload_n hx hb dX8_simulate_42 rfl (lv_at hl 5 rfl) ?_
          refine lv_icmp_ge (tgt := 150) hx hb dX8_simulate_43 (by decide) (fun c_8 => ?_) (fun c_8 => ?_)
          · refine lv_sipush (v := 10000) hx hb dX8_simulate_150 (by decide) ?_
            refine lv_aload_n hx hb dX8_simulate_153 rfl (lv_at hl 3 rfl) ?_
            refine va_get (D := D) (ci := 8) (v := .ref tr) (C := RX8) (T := TX8) (N := 13) hx hb hts iX8_simulate_X8 hown hK hP 0 rfl rfl 8 (by decide) (hts (.fieldLink RX8 19 "FrameCardModel" "trial" "[I") (by decide +kernel)) (fun _ h9 => h9) rfl dX8_simulate_154 ?_
            refine lv_bipush (v := 6) hx hb dX8_simulate_157 (by decide) ?_
            refine va_iald (D := D) hx hb hK hP 2 0 rfl rfl (vp_in_iff.mpr (by decide)) dX8_simulate_159 ?_
            refine lv_aload_n hx hb dX8_simulate_160 rfl (lv_at hl 3 rfl) ?_
            refine va_get (D := D) (ci := 8) (v := .ref nw) (C := RX8) (T := TX8) (N := 13) hx hb hts iX8_simulate_X8 hown hK hP 0 rfl rfl 7 (by decide) (hts (.fieldLink RX8 16 "FrameCardModel" "now" "[I") (by decide +kernel)) (fun _ h9 => h9) rfl dX8_simulate_161 ?_
            refine lv_bipush (v := 6) hx hb dX8_simulate_164 (by decide) ?_
            refine va_iald (D := D) hx hb hK hP 1 0 rfl rfl (vp_in_iff.mpr (by decide)) dX8_simulate_166 ?_
            refine lv_isub hx hb dX8_simulate_167 ?_
            refine lv_imul hx hb dX8_simulate_168 ?_
            refine lv_bipush (v := 100) hx hb dX8_simulate_169 (by decide) ?_
            refine lv_aload_n hx hb dX8_simulate_171 rfl (lv_at hl 3 rfl) ?_
            refine va_get (D := D) (ci := 8) (v := .ref tr) (C := RX8) (T := TX8) (N := 13) hx hb hts iX8_simulate_X8 hown hK hP 0 rfl rfl 8 (by decide) (hts (.fieldLink RX8 19 "FrameCardModel" "trial" "[I") (by decide +kernel)) (fun _ h9 => h9) rfl dX8_simulate_172 ?_
            refine lv_bipush (v := 7) hx hb dX8_simulate_175 (by decide) ?_
            refine va_iald (D := D) hx hb hK hP 2 0 rfl rfl (vp_in_iff.mpr (by decide)) dX8_simulate_177 ?_
            refine lv_aload_n hx hb dX8_simulate_178 rfl (lv_at hl 3 rfl) ?_
            refine va_get (D := D) (ci := 8) (v := .ref nw) (C := RX8) (T := TX8) (N := 13) hx hb hts iX8_simulate_X8 hown hK hP 0 rfl rfl 7 (by decide) (hts (.fieldLink RX8 16 "FrameCardModel" "now" "[I") (by decide +kernel)) (fun _ h9 => h9) rfl dX8_simulate_179 ?_
            refine lv_bipush (v := 7) hx hb dX8_simulate_182 (by decide) ?_
            refine va_iald (D := D) hx hb hK hP 1 0 rfl rfl (vp_in_iff.mpr (by decide)) dX8_simulate_184 ?_
            refine lv_isub hx hb dX8_simulate_185 ?_
            refine lv_imul hx hb dX8_simulate_186 ?_
            refine lv_iadd hx hb dX8_simulate_187 ?_
            refine lv_aload_n hx hb dX8_simulate_188 rfl (lv_at hl 3 rfl) ?_
            refine va_get (D := D) (ci := 8) (v := .ref tr) (C := RX8) (T := TX8) (N := 13) hx hb hts iX8_simulate_X8 hown hK hP 0 rfl rfl 8 (by decide) (hts (.fieldLink RX8 19 "FrameCardModel" "trial" "[I") (by decide +kernel)) (fun _ h9 => h9) rfl dX8_simulate_189 ?_
            refine lv_bipush (v := 16) hx hb dX8_simulate_192 (by decide) ?_
            refine va_iald (D := D) hx hb hK hP 2 0 rfl rfl (vp_in_iff.mpr (by decide)) dX8_simulate_194 ?_
            refine lv_iadd hx hb dX8_simulate_195 ?_
            exact hret _ _ (((10000 * ((trowh40 (6 : Int32).toNatClampNeg) - (row (6 : Int32).toNatClampNeg))) + (100 * ((trowh40 (7 : Int32).toNatClampNeg) - (row (7 : Int32).toNatClampNeg)))) + (trowh40 (16 : Int32).toNatClampNeg)) (0, trowh40) _ _ (by rw [hI_40, mX8_simulate_L40_s, mX8_simulate_S40]; rw [if_pos c_8]; (first | done | rfl)) (hP.sub [0, 1, 2] rfl) (hD.sub [0, 1, 2] (by decide) rfl) hS dX8_simulate_196
          · refine lv_lload hx hb dX8_simulate_46 (lv_at hl 2 rfl) ?_
            refine lv_ldc2 (v := 6364136223846793005) hx hb hown (hts (.constantLong RX8 225 6364136223846793005) (by decide +kernel)) dX8_simulate_48 ?_
            refine lv_lmul hx hb dX8_simulate_51 ?_
            refine lv_ldc2 (v := 1442695040888963407) hx hb hown (hts (.constantLong RX8 227 1442695040888963407) (by decide +kernel)) dX8_simulate_52 ?_
            refine lv_ladd hx hb dX8_simulate_55 ?_
            refine lv_lstore (lv' := [(4, .long ((x4h40 * 6364136223846793005) + 1442695040888963407)), (7, .int x7h40), (6, .int x6h40), (0, .ref mo), (1, .long p0), (3, .int p1)]) hx hb dX8_simulate_56 hl (by decide) rfl (fun ls hl => ?_)
            refine lv_lload hx hb dX8_simulate_58 (lv_at hl 0 rfl) ?_
            refine lv_bipush (v := 33) hx hb dX8_simulate_60 (by decide) ?_
            refine lv_lushr hx hb dX8_simulate_62 rfl ?_
            refine lv_l2i hx hb dX8_simulate_63 rfl ?_
            obtain ⟨rn_9, hw_9⟩ : ∃ z, ((((x4h40 * 6364136223846793005) + 1442695040888963407).toUInt64 >>> ((33 : Int32).toInt64.toUInt64 &&& Int64.toUInt64 63)).toInt64 : Int64).toInt32 = z := ⟨_, rfl⟩
            rw [hw_9]
            have hr0 : 0 ≤ rn_9.toInt := hw_9 ▸ fx_ushr33 ((x4h40 * 6364136223846793005) + 1442695040888963407)
            refine lv_istore (lv' := [(8, .int rn_9), (4, .long ((x4h40 * 6364136223846793005) + 1442695040888963407)), (7, .int x7h40), (6, .int x6h40), (0, .ref mo), (1, .long p0), (3, .int p1)]) hx hb dX8_simulate_64 hl (by decide) rfl (fun ls hl => ?_)
            refine lv_iload hx hb dX8_simulate_66 (lv_at hl 0 rfl) ?_
            refine lv_iconst (v := 4) hx hb dX8_simulate_68 (by decide) ?_
            refine lv_irem hx hb dX8_simulate_69 (by decide) ?_
            refine lv_if_ne (tgt := 84) hx hb dX8_simulate_70 (by decide) (fun c_10 => ?_) (fun c_10 => ?_)
            · refine lv_iload hx hb dX8_simulate_84 (lv_at hl 0 rfl) ?_
              refine lv_iconst (v := 4) hx hb dX8_simulate_86 (by decide) ?_
              refine lv_irem hx hb dX8_simulate_87 (by decide) ?_
              refine lv_iconst (v := 1) hx hb dX8_simulate_88 (by decide) ?_
              refine lv_icmp_ne (tgt := 112) hx hb dX8_simulate_89 (by decide) (fun c_11 => ?_) (fun c_11 => ?_)
              · refine lv_iload hx hb dX8_simulate_112 (lv_at hl 3 rfl) ?_
                have hpp := hp_40
                refine lv_istore (lv' := [(6, .int x6h40), (8, .int rn_9), (4, .long ((x4h40 * 6364136223846793005) + 1442695040888963407)), (7, .int x7h40), (0, .ref mo), (1, .long p0), (3, .int p1)]) hx hb dX8_simulate_114 hl (by decide) rfl (fun ls hl => ?_)
                refine lv_iload hx hb dX8_simulate_116 (lv_at hl 1 rfl) ?_
                refine lv_iconst (v := 4) hx hb dX8_simulate_118 (by decide) ?_
                refine lv_idiv hx hb dX8_simulate_119 (by decide) ?_
                refine lv_iconst (v := 4) hx hb dX8_simulate_120 (by decide) ?_
                refine lv_irem hx hb dX8_simulate_121 (by decide) ?_
                refine lv_iconst (v := 3) hx hb dX8_simulate_122 (by decide) ?_
                refine lv_icmp_ge (tgt := 136) hx hb dX8_simulate_123 (by decide) (fun c_12 => ?_) (fun c_12 => ?_)
                · refine lv_aload_n hx hb dX8_simulate_136 rfl (lv_at hl 4 rfl) ?_
                  refine va_get (D := D) (ci := 8) (v := .ref tr) (C := RX8) (T := TX8) (N := 13) hx hb hts iX8_simulate_X8 hown hK hP 0 rfl rfl 8 (by decide) (hts (.fieldLink RX8 19 "FrameCardModel" "trial" "[I") (by decide +kernel)) (fun _ h9 => h9) rfl dX8_simulate_137 ?_
                  refine fc_goi (isC := [2]) (isR := [0, 1]) (wc := [(tr, .inl (tc 0, 357, .inl trowh40))]) (wr := [(mo, .inr (8, [.int 0, .ref sc, .int ss, .int sp, .int ig, .int lf, .ref rd, .ref nw, .ref tr, .ref di, .int ac, .ref kp, .ref ik])), (nw, .inl (tc 0, 357, .inl row))]) hP hD hS hA rfl rfl (by decide) (by decide) (fc_runS (isC := [2]) (As := [.ref tr]) (rest := []) hx hb hml hown hts hK hE hP hD hS hA rfl (by decide) (c_X8_tick l D tc tr trowh40 _ (by first | exact hs1.mono (by omega) | exact hx_40.mono (by omega))) (cwS 1 hts gX8_simulate_X8_tick rfl rfl rfl hd_X8_tick ⟨Nat.le_of_ble_eq_true rfl, Nat.le_of_ble_eq_true rfl⟩) rfl hl.1 rfl (Nat.le_of_ble_eq_true rfl) dX8_simulate_140 ⟨Nat.le_of_ble_eq_true rfl, Nat.le_of_ble_eq_true rfl⟩) (fun r_13 u_13 H locs hw_13 hP hD hS => ?_)
                  obtain ⟨row_13, rfl⟩ : ∃ z, z = u_13 := ⟨_, rfl⟩
                  try dsimp only at hw_13
                  have hP : va_P D vwCl [(mo, .inr (8, [.int 0, .ref sc, .int ss, .int sp, .int ig, .int lf, .ref rd, .ref nw, .ref tr, .ref di, .int ac, .ref kp, .ref ik])), (nw, .inl (tc 0, 357, .inl row)), (tr, .inl (tc 0, 357, .inl row_13))] H := hP
                  have hD : va_D A [(mo, .inr (8, [.int 0, .ref sc, .int ss, .int sp, .int ig, .int lf, .ref rd, .ref nw, .ref tr, .ref di, .int ac, .ref kp, .ref ik])), (nw, .inl (tc 0, 357, .inl row)), (tr, .inl (tc 0, 357, .inl row_13))] := hD
                  have HT := hw_13
                  refine lv_pop hx hb dX8_simulate_143 rfl ?_
                  refine lv_iinc (v := (x7h40 + 1)) (lv' := [(7, .int (x7h40 + 1)), (6, .int x6h40), (8, .int rn_9), (4, .long ((x4h40 * 6364136223846793005) + 1442695040888963407)), (0, .ref mo), (1, .long p0), (3, .int p1)]) hx hb dX8_simulate_144 hl (k := 3) rfl rfl (by decide) rfl (fun ls hl => ?_)
                  refine lv_goto (tgt := 40) hx hb dX8_simulate_147 (by decide) ?_
                  exact ih_40 (i_40 + 1) ((x4h40 * 6364136223846793005) + 1442695040888963407) x6h40 (x7h40 + 1) row_13 (by rw [hb_40]; exact nI_1 _) (by have l_0 : (0 : Int32).toInt = 0 := (by decide); have l_1 : (1 : Int32).toInt = 1 := (by decide); have l_2 : (2 : Int32).toInt = 2 := (by decide); have l_3 : (3 : Int32).toInt = 3 := (by decide); have l_4 : (4 : Int32).toInt = 4 := (by decide); have qc_8 := c_8; (try simp only [fc_le, fc_lt, fc_eq] at qc_8); have qc_10 := c_10; (try simp only [fc_le, fc_lt, fc_eq] at qc_10); have qc_11 := c_11; (try simp only [fc_le, fc_lt, fc_eq] at qc_11); have qc_12 := c_12; (try simp only [fc_le, fc_lt, fc_eq] at qc_12); skip; omega) hpp (by first | exact RX_tick (m := 2 * k_40) (hs1.mono (by omega)) HT | exact RX_tick (m := 2 * k_40) (hx_40.mono (by omega)) HT) (by rw [hI_40, mX8_simulate_L40_s, mX8_simulate_S40]; rw [if_neg c_8]; rw [hw_9]; (try dsimp only); rw [if_neg c_10]; rw [if_neg c_11]; rw [if_pos c_12]; rw [hw_13]; rw [mX8_simulate_C13]; (try dsimp only); (first | done | rfl)) _ _ (hP.sub [0, 1, 2] rfl) (hD.sub [0, 1, 2] (by decide) rfl) hS ls (lv_sub hl [0, 1, 3, 4, 5, 6] rfl)
                · refine lv_aload_n hx hb dX8_simulate_126 rfl (lv_at hl 4 rfl) ?_
                  refine va_get (D := D) (ci := 8) (v := .ref tr) (C := RX8) (T := TX8) (N := 13) hx hb hts iX8_simulate_X8 hown hK hP 0 rfl rfl 8 (by decide) (hts (.fieldLink RX8 19 "FrameCardModel" "trial" "[I") (by decide +kernel)) (fun _ h9 => h9) rfl dX8_simulate_127 ?_
                  refine lv_iload hx hb dX8_simulate_130 (lv_at hl 0 rfl) ?_
                  refine fc_goi (isC := [2]) (isR := [0, 1]) (wc := [(tr, .inl (tc 0, 357, .inl trowh40))]) (wr := [(mo, .inr (8, [.int 0, .ref sc, .int ss, .int sp, .int ig, .int lf, .ref rd, .ref nw, .ref tr, .ref di, .int ac, .ref kp, .ref ik])), (nw, .inl (tc 0, 357, .inl row))]) hP hD hS hA rfl rfl (by decide) (by decide) (fc_runS (isC := [2]) (As := [.ref tr, .int x6h40]) (rest := []) hx hb hml hown hts hK hE hP hD hS hA rfl (by decide) (c_X8_shootIn l D tc tr trowh40 x6h40 _ (RX_K hx_40).2.2) (cwS 2 hts gX8_simulate_X8_shootIn rfl rfl rfl hd_X8_shootIn ⟨Nat.le_of_ble_eq_true rfl, Nat.le_of_ble_eq_true rfl⟩) rfl hl.1 rfl (Nat.le_of_ble_eq_true rfl) dX8_simulate_132 ⟨Nat.le_of_ble_eq_true rfl, Nat.le_of_ble_eq_true rfl⟩) (fun r_14 u_14 H locs hw_14 hP hD hS => ?_)
                  obtain ⟨row_14, rfl⟩ : ∃ z, z = u_14 := ⟨_, rfl⟩
                  try dsimp only at hw_14
                  have hP : va_P D vwCl [(mo, .inr (8, [.int 0, .ref sc, .int ss, .int sp, .int ig, .int lf, .ref rd, .ref nw, .ref tr, .ref di, .int ac, .ref kp, .ref ik])), (nw, .inl (tc 0, 357, .inl row)), (tr, .inl (tc 0, 357, .inl row_14))] H := hP
                  have hD : va_D A [(mo, .inr (8, [.int 0, .ref sc, .int ss, .int sp, .int ig, .int lf, .ref rd, .ref nw, .ref tr, .ref di, .int ac, .ref kp, .ref ik])), (nw, .inl (tc 0, 357, .inl row)), (tr, .inl (tc 0, 357, .inl row_14))] := hD
                  have hs1 := (RX_shoot (m := 2 * k_40 + 1) (hx_40.mono (by omega)) hpp.1 hw_14)
                  refine lv_pop hx hb dX8_simulate_135 rfl ?_
                  refine lv_aload_n hx hb dX8_simulate_136 rfl (lv_at hl 4 rfl) ?_
                  refine va_get (D := D) (ci := 8) (v := .ref tr) (C := RX8) (T := TX8) (N := 13) hx hb hts iX8_simulate_X8 hown hK hP 0 rfl rfl 8 (by decide) (hts (.fieldLink RX8 19 "FrameCardModel" "trial" "[I") (by decide +kernel)) (fun _ h9 => h9) rfl dX8_simulate_137 ?_
                  refine fc_goi (isC := [2]) (isR := [0, 1]) (wc := [(tr, .inl (tc 0, 357, .inl row_14))]) (wr := [(mo, .inr (8, [.int 0, .ref sc, .int ss, .int sp, .int ig, .int lf, .ref rd, .ref nw, .ref tr, .ref di, .int ac, .ref kp, .ref ik])), (nw, .inl (tc 0, 357, .inl row))]) hP hD hS hA rfl rfl (by decide) (by decide) (fc_runS (isC := [2]) (As := [.ref tr]) (rest := []) hx hb hml hown hts hK hE hP hD hS hA rfl (by decide) (c_X8_tick l D tc tr row_14 _ (by first | exact hs1.mono (by omega) | exact hx_40.mono (by omega))) (cwS 1 hts gX8_simulate_X8_tick rfl rfl rfl hd_X8_tick ⟨Nat.le_of_ble_eq_true rfl, Nat.le_of_ble_eq_true rfl⟩) rfl hl.1 rfl (Nat.le_of_ble_eq_true rfl) dX8_simulate_140 ⟨Nat.le_of_ble_eq_true rfl, Nat.le_of_ble_eq_true rfl⟩) (fun r_15 u_15 H locs hw_15 hP hD hS => ?_)
                  obtain ⟨row_15, rfl⟩ : ∃ z, z = u_15 := ⟨_, rfl⟩
                  try dsimp only at hw_15
                  have hP : va_P D vwCl [(mo, .inr (8, [.int 0, .ref sc, .int ss, .int sp, .int ig, .int lf, .ref rd, .ref nw, .ref tr, .ref di, .int ac, .ref kp, .ref ik])), (nw, .inl (tc 0, 357, .inl row)), (tr, .inl (tc 0, 357, .inl row_15))] H := hP
                  have hD : va_D A [(mo, .inr (8, [.int 0, .ref sc, .int ss, .int sp, .int ig, .int lf, .ref rd, .ref nw, .ref tr, .ref di, .int ac, .ref kp, .ref ik])), (nw, .inl (tc 0, 357, .inl row)), (tr, .inl (tc 0, 357, .inl row_15))] := hD
                  have HT := hw_15
                  refine lv_pop hx hb dX8_simulate_143 rfl ?_
                  refine lv_iinc (v := (x7h40 + 1)) (lv' := [(7, .int (x7h40 + 1)), (6, .int x6h40), (8, .int rn_9), (4, .long ((x4h40 * 6364136223846793005) + 1442695040888963407)), (0, .ref mo), (1, .long p0), (3, .int p1)]) hx hb dX8_simulate_144 hl (k := 3) rfl rfl (by decide) rfl (fun ls hl => ?_)
                  refine lv_goto (tgt := 40) hx hb dX8_simulate_147 (by decide) ?_
                  exact ih_40 (i_40 + 1) ((x4h40 * 6364136223846793005) + 1442695040888963407) x6h40 (x7h40 + 1) row_15 (by rw [hb_40]; exact nI_1 _) (by have l_0 : (0 : Int32).toInt = 0 := (by decide); have l_1 : (1 : Int32).toInt = 1 := (by decide); have l_2 : (2 : Int32).toInt = 2 := (by decide); have l_3 : (3 : Int32).toInt = 3 := (by decide); have l_4 : (4 : Int32).toInt = 4 := (by decide); have qc_8 := c_8; (try simp only [fc_le, fc_lt, fc_eq] at qc_8); have qc_10 := c_10; (try simp only [fc_le, fc_lt, fc_eq] at qc_10); have qc_11 := c_11; (try simp only [fc_le, fc_lt, fc_eq] at qc_11); have qc_12 := c_12; (try simp only [fc_le, fc_lt, fc_eq] at qc_12); skip; omega) hpp (by first | exact RX_tick (m := 2 * k_40) (hs1.mono (by omega)) HT | exact RX_tick (m := 2 * k_40) (hx_40.mono (by omega)) HT) (by rw [hI_40, mX8_simulate_L40_s, mX8_simulate_S40]; rw [if_neg c_8]; rw [hw_9]; (try dsimp only); rw [if_neg c_10]; rw [if_neg c_11]; rw [if_neg c_12]; rw [hw_14]; rw [mX8_simulate_C14]; (try dsimp only); rw [hw_15]; rw [mX8_simulate_C15]; (try dsimp only); (first | done | rfl)) _ _ (hP.sub [0, 1, 2] rfl) (hD.sub [0, 1, 2] (by decide) rfl) hS ls (lv_sub hl [0, 1, 3, 4, 5, 6] rfl)
              · refine lv_iload hx hb dX8_simulate_92 (lv_at hl 3 rfl) ?_
                refine lv_bipush (v := 10) hx hb dX8_simulate_94 (by decide) ?_
                refine lv_idiv hx hb dX8_simulate_96 (by decide) ?_
                refine lv_bipush (v := 10) hx hb dX8_simulate_97 (by decide) ?_
                refine lv_imul hx hb dX8_simulate_99 ?_
                refine lv_iload hx hb dX8_simulate_100 (lv_at hl 0 rfl) ?_
                refine lv_bipush (v := 64) hx hb dX8_simulate_102 (by decide) ?_
                refine lv_idiv hx hb dX8_simulate_104 (by decide) ?_
                refine lv_bipush (v := 10) hx hb dX8_simulate_105 (by decide) ?_
                refine lv_irem hx hb dX8_simulate_107 (by decide) ?_
                refine lv_iadd hx hb dX8_simulate_108 ?_
                refine lv_goto (tgt := 114) hx hb dX8_simulate_109 (by decide) ?_
                have hpp := fx_p2 hp_40 hr0
                refine lv_istore (lv' := [(6, .int (((x6h40 / 10) * 10) + ((rn_9 / 64) - (rn_9 / 64) / 10 * 10))), (8, .int rn_9), (4, .long ((x4h40 * 6364136223846793005) + 1442695040888963407)), (7, .int x7h40), (0, .ref mo), (1, .long p0), (3, .int p1)]) hx hb dX8_simulate_114 hl (by decide) rfl (fun ls hl => ?_)
                refine lv_iload hx hb dX8_simulate_116 (lv_at hl 1 rfl) ?_
                refine lv_iconst (v := 4) hx hb dX8_simulate_118 (by decide) ?_
                refine lv_idiv hx hb dX8_simulate_119 (by decide) ?_
                refine lv_iconst (v := 4) hx hb dX8_simulate_120 (by decide) ?_
                refine lv_irem hx hb dX8_simulate_121 (by decide) ?_
                refine lv_iconst (v := 3) hx hb dX8_simulate_122 (by decide) ?_
                refine lv_icmp_ge (tgt := 136) hx hb dX8_simulate_123 (by decide) (fun c_16 => ?_) (fun c_16 => ?_)
                · refine lv_aload_n hx hb dX8_simulate_136 rfl (lv_at hl 4 rfl) ?_
                  refine va_get (D := D) (ci := 8) (v := .ref tr) (C := RX8) (T := TX8) (N := 13) hx hb hts iX8_simulate_X8 hown hK hP 0 rfl rfl 8 (by decide) (hts (.fieldLink RX8 19 "FrameCardModel" "trial" "[I") (by decide +kernel)) (fun _ h9 => h9) rfl dX8_simulate_137 ?_
                  refine fc_goi (isC := [2]) (isR := [0, 1]) (wc := [(tr, .inl (tc 0, 357, .inl trowh40))]) (wr := [(mo, .inr (8, [.int 0, .ref sc, .int ss, .int sp, .int ig, .int lf, .ref rd, .ref nw, .ref tr, .ref di, .int ac, .ref kp, .ref ik])), (nw, .inl (tc 0, 357, .inl row))]) hP hD hS hA rfl rfl (by decide) (by decide) (fc_runS (isC := [2]) (As := [.ref tr]) (rest := []) hx hb hml hown hts hK hE hP hD hS hA rfl (by decide) (c_X8_tick l D tc tr trowh40 _ (by first | exact hs1.mono (by omega) | exact hx_40.mono (by omega))) (cwS 1 hts gX8_simulate_X8_tick rfl rfl rfl hd_X8_tick ⟨Nat.le_of_ble_eq_true rfl, Nat.le_of_ble_eq_true rfl⟩) rfl hl.1 rfl (Nat.le_of_ble_eq_true rfl) dX8_simulate_140 ⟨Nat.le_of_ble_eq_true rfl, Nat.le_of_ble_eq_true rfl⟩) (fun r_17 u_17 H locs hw_17 hP hD hS => ?_)
                  obtain ⟨row_17, rfl⟩ : ∃ z, z = u_17 := ⟨_, rfl⟩
                  try dsimp only at hw_17
                  have hP : va_P D vwCl [(mo, .inr (8, [.int 0, .ref sc, .int ss, .int sp, .int ig, .int lf, .ref rd, .ref nw, .ref tr, .ref di, .int ac, .ref kp, .ref ik])), (nw, .inl (tc 0, 357, .inl row)), (tr, .inl (tc 0, 357, .inl row_17))] H := hP
                  have hD : va_D A [(mo, .inr (8, [.int 0, .ref sc, .int ss, .int sp, .int ig, .int lf, .ref rd, .ref nw, .ref tr, .ref di, .int ac, .ref kp, .ref ik])), (nw, .inl (tc 0, 357, .inl row)), (tr, .inl (tc 0, 357, .inl row_17))] := hD
                  have HT := hw_17
                  refine lv_pop hx hb dX8_simulate_143 rfl ?_
                  refine lv_iinc (v := (x7h40 + 1)) (lv' := [(7, .int (x7h40 + 1)), (6, .int (((x6h40 / 10) * 10) + ((rn_9 / 64) - (rn_9 / 64) / 10 * 10))), (8, .int rn_9), (4, .long ((x4h40 * 6364136223846793005) + 1442695040888963407)), (0, .ref mo), (1, .long p0), (3, .int p1)]) hx hb dX8_simulate_144 hl (k := 3) rfl rfl (by decide) rfl (fun ls hl => ?_)
                  refine lv_goto (tgt := 40) hx hb dX8_simulate_147 (by decide) ?_
                  exact ih_40 (i_40 + 1) ((x4h40 * 6364136223846793005) + 1442695040888963407) (((x6h40 / 10) * 10) + ((rn_9 / 64) - (rn_9 / 64) / 10 * 10)) (x7h40 + 1) row_17 (by rw [hb_40]; exact nI_1 _) (by have l_0 : (0 : Int32).toInt = 0 := (by decide); have l_1 : (1 : Int32).toInt = 1 := (by decide); have l_2 : (2 : Int32).toInt = 2 := (by decide); have l_3 : (3 : Int32).toInt = 3 := (by decide); have l_4 : (4 : Int32).toInt = 4 := (by decide); have qc_8 := c_8; (try simp only [fc_le, fc_lt, fc_eq] at qc_8); have qc_10 := c_10; (try simp only [fc_le, fc_lt, fc_eq] at qc_10); have qc_11 := c_11; (try simp only [fc_le, fc_lt, fc_eq] at qc_11); have qc_16 := c_16; (try simp only [fc_le, fc_lt, fc_eq] at qc_16); skip; omega) hpp (by first | exact RX_tick (m := 2 * k_40) (hs1.mono (by omega)) HT | exact RX_tick (m := 2 * k_40) (hx_40.mono (by omega)) HT) (by rw [hI_40, mX8_simulate_L40_s, mX8_simulate_S40]; rw [if_neg c_8]; rw [hw_9]; (try dsimp only); rw [if_neg c_10]; rw [if_pos c_11]; rw [if_pos c_16]; rw [hw_17]; rw [mX8_simulate_C17]; (try dsimp only); (first | done | rfl)) _ _ (hP.sub [0, 1, 2] rfl) (hD.sub [0, 1, 2] (by decide) rfl) hS ls (lv_sub hl [0, 1, 3, 4, 5, 6] rfl)
                · refine lv_aload_n hx hb dX8_simulate_126 rfl (lv_at hl 4 rfl) ?_
                  refine va_get (D := D) (ci := 8) (v := .ref tr) (C := RX8) (T := TX8) (N := 13) hx hb hts iX8_simulate_X8 hown hK hP 0 rfl rfl 8 (by decide) (hts (.fieldLink RX8 19 "FrameCardModel" "trial" "[I") (by decide +kernel)) (fun _ h9 => h9) rfl dX8_simulate_127 ?_
                  refine lv_iload hx hb dX8_simulate_130 (lv_at hl 0 rfl) ?_
                  refine fc_goi (isC := [2]) (isR := [0, 1]) (wc := [(tr, .inl (tc 0, 357, .inl trowh40))]) (wr := [(mo, .inr (8, [.int 0, .ref sc, .int ss, .int sp, .int ig, .int lf, .ref rd, .ref nw, .ref tr, .ref di, .int ac, .ref kp, .ref ik])), (nw, .inl (tc 0, 357, .inl row))]) hP hD hS hA rfl rfl (by decide) (by decide) (fc_runS (isC := [2]) (As := [.ref tr, .int (((x6h40 / 10) * 10) + ((rn_9 / 64) - (rn_9 / 64) / 10 * 10))]) (rest := []) hx hb hml hown hts hK hE hP hD hS hA rfl (by decide) (c_X8_shootIn l D tc tr trowh40 (((x6h40 / 10) * 10) + ((rn_9 / 64) - (rn_9 / 64) / 10 * 10)) _ (RX_K hx_40).2.2) (cwS 2 hts gX8_simulate_X8_shootIn rfl rfl rfl hd_X8_shootIn ⟨Nat.le_of_ble_eq_true rfl, Nat.le_of_ble_eq_true rfl⟩) rfl hl.1 rfl (Nat.le_of_ble_eq_true rfl) dX8_simulate_132 ⟨Nat.le_of_ble_eq_true rfl, Nat.le_of_ble_eq_true rfl⟩) (fun r_18 u_18 H locs hw_18 hP hD hS => ?_)
                  obtain ⟨row_18, rfl⟩ : ∃ z, z = u_18 := ⟨_, rfl⟩
                  try dsimp only at hw_18
                  have hP : va_P D vwCl [(mo, .inr (8, [.int 0, .ref sc, .int ss, .int sp, .int ig, .int lf, .ref rd, .ref nw, .ref tr, .ref di, .int ac, .ref kp, .ref ik])), (nw, .inl (tc 0, 357, .inl row)), (tr, .inl (tc 0, 357, .inl row_18))] H := hP
                  have hD : va_D A [(mo, .inr (8, [.int 0, .ref sc, .int ss, .int sp, .int ig, .int lf, .ref rd, .ref nw, .ref tr, .ref di, .int ac, .ref kp, .ref ik])), (nw, .inl (tc 0, 357, .inl row)), (tr, .inl (tc 0, 357, .inl row_18))] := hD
                  have hs1 := (RX_shoot (m := 2 * k_40 + 1) (hx_40.mono (by omega)) hpp.1 hw_18)
                  refine lv_pop hx hb dX8_simulate_135 rfl ?_
                  refine lv_aload_n hx hb dX8_simulate_136 rfl (lv_at hl 4 rfl) ?_
                  refine va_get (D := D) (ci := 8) (v := .ref tr) (C := RX8) (T := TX8) (N := 13) hx hb hts iX8_simulate_X8 hown hK hP 0 rfl rfl 8 (by decide) (hts (.fieldLink RX8 19 "FrameCardModel" "trial" "[I") (by decide +kernel)) (fun _ h9 => h9) rfl dX8_simulate_137 ?_
                  refine fc_goi (isC := [2]) (isR := [0, 1]) (wc := [(tr, .inl (tc 0, 357, .inl row_18))]) (wr := [(mo, .inr (8, [.int 0, .ref sc, .int ss, .int sp, .int ig, .int lf, .ref rd, .ref nw, .ref tr, .ref di, .int ac, .ref kp, .ref ik])), (nw, .inl (tc 0, 357, .inl row))]) hP hD hS hA rfl rfl (by decide) (by decide) (fc_runS (isC := [2]) (As := [.ref tr]) (rest := []) hx hb hml hown hts hK hE hP hD hS hA rfl (by decide) (c_X8_tick l D tc tr row_18 _ (by first | exact hs1.mono (by omega) | exact hx_40.mono (by omega))) (cwS 1 hts gX8_simulate_X8_tick rfl rfl rfl hd_X8_tick ⟨Nat.le_of_ble_eq_true rfl, Nat.le_of_ble_eq_true rfl⟩) rfl hl.1 rfl (Nat.le_of_ble_eq_true rfl) dX8_simulate_140 ⟨Nat.le_of_ble_eq_true rfl, Nat.le_of_ble_eq_true rfl⟩) (fun r_19 u_19 H locs hw_19 hP hD hS => ?_)
                  obtain ⟨row_19, rfl⟩ : ∃ z, z = u_19 := ⟨_, rfl⟩
                  try dsimp only at hw_19
                  have hP : va_P D vwCl [(mo, .inr (8, [.int 0, .ref sc, .int ss, .int sp, .int ig, .int lf, .ref rd, .ref nw, .ref tr, .ref di, .int ac, .ref kp, .ref ik])), (nw, .inl (tc 0, 357, .inl row)), (tr, .inl (tc 0, 357, .inl row_19))] H := hP
                  have hD : va_D A [(mo, .inr (8, [.int 0, .ref sc, .int ss, .int sp, .int ig, .int lf, .ref rd, .ref nw, .ref tr, .ref di, .int ac, .ref kp, .ref ik])), (nw, .inl (tc 0, 357, .inl row)), (tr, .inl (tc 0, 357, .inl row_19))] := hD
                  have HT := hw_19
                  refine lv_pop hx hb dX8_simulate_143 rfl ?_
                  refine lv_iinc (v := (x7h40 + 1)) (lv' := [(7, .int (x7h40 + 1)), (6, .int (((x6h40 / 10) * 10) + ((rn_9 / 64) - (rn_9 / 64) / 10 * 10))), (8, .int rn_9), (4, .long ((x4h40 * 6364136223846793005) + 1442695040888963407)), (0, .ref mo), (1, .long p0), (3, .int p1)]) hx hb dX8_simulate_144 hl (k := 3) rfl rfl (by decide) rfl (fun ls hl => ?_)
                  refine lv_goto (tgt := 40) hx hb dX8_simulate_147 (by decide) ?_
                  exact ih_40 (i_40 + 1) ((x4h40 * 6364136223846793005) + 1442695040888963407) (((x6h40 / 10) * 10) + ((rn_9 / 64) - (rn_9 / 64) / 10 * 10)) (x7h40 + 1) row_19 (by rw [hb_40]; exact nI_1 _) (by have l_0 : (0 : Int32).toInt = 0 := (by decide); have l_1 : (1 : Int32).toInt = 1 := (by decide); have l_2 : (2 : Int32).toInt = 2 := (by decide); have l_3 : (3 : Int32).toInt = 3 := (by decide); have l_4 : (4 : Int32).toInt = 4 := (by decide); have qc_8 := c_8; (try simp only [fc_le, fc_lt, fc_eq] at qc_8); have qc_10 := c_10; (try simp only [fc_le, fc_lt, fc_eq] at qc_10); have qc_11 := c_11; (try simp only [fc_le, fc_lt, fc_eq] at qc_11); have qc_16 := c_16; (try simp only [fc_le, fc_lt, fc_eq] at qc_16); skip; omega) hpp (by first | exact RX_tick (m := 2 * k_40) (hs1.mono (by omega)) HT | exact RX_tick (m := 2 * k_40) (hx_40.mono (by omega)) HT) (by rw [hI_40, mX8_simulate_L40_s, mX8_simulate_S40]; rw [if_neg c_8]; rw [hw_9]; (try dsimp only); rw [if_neg c_10]; rw [if_pos c_11]; rw [if_neg c_16]; rw [hw_18]; rw [mX8_simulate_C18]; (try dsimp only); rw [hw_19]; rw [mX8_simulate_C19]; (try dsimp only); (first | done | rfl)) _ _ (hP.sub [0, 1, 2] rfl) (hD.sub [0, 1, 2] (by decide) rfl) hS ls (lv_sub hl [0, 1, 3, 4, 5, 6] rfl)
            · refine lv_iload hx hb dX8_simulate_73 (lv_at hl 0 rfl) ?_
              refine lv_bipush (v := 64) hx hb dX8_simulate_75 (by decide) ?_
              refine lv_idiv hx hb dX8_simulate_77 (by decide) ?_
              refine lv_ldc (v := 1000000) hx hb hown (hts (.constant RX8 199 1000000) (by decide +kernel)) dX8_simulate_78 ?_
              refine lv_irem hx hb dX8_simulate_80 (by decide) ?_
              refine lv_goto (tgt := 114) hx hb dX8_simulate_81 (by decide) ?_
              have hpp := fx_p1 hr0
              refine lv_istore (lv' := [(6, .int ((rn_9 / 64) - (rn_9 / 64) / 1000000 * 1000000)), (8, .int rn_9), (4, .long ((x4h40 * 6364136223846793005) + 1442695040888963407)), (7, .int x7h40), (0, .ref mo), (1, .long p0), (3, .int p1)]) hx hb dX8_simulate_114 hl (by decide) rfl (fun ls hl => ?_)
              refine lv_iload hx hb dX8_simulate_116 (lv_at hl 1 rfl) ?_
              refine lv_iconst (v := 4) hx hb dX8_simulate_118 (by decide) ?_
              refine lv_idiv hx hb dX8_simulate_119 (by decide) ?_
              refine lv_iconst (v := 4) hx hb dX8_simulate_120 (by decide) ?_
              refine lv_irem hx hb dX8_simulate_121 (by decide) ?_
              refine lv_iconst (v := 3) hx hb dX8_simulate_122 (by decide) ?_
              refine lv_icmp_ge (tgt := 136) hx hb dX8_simulate_123 (by decide) (fun c_20 => ?_) (fun c_20 => ?_)
              · refine lv_aload_n hx hb dX8_simulate_136 rfl (lv_at hl 4 rfl) ?_
                refine va_get (D := D) (ci := 8) (v := .ref tr) (C := RX8) (T := TX8) (N := 13) hx hb hts iX8_simulate_X8 hown hK hP 0 rfl rfl 8 (by decide) (hts (.fieldLink RX8 19 "FrameCardModel" "trial" "[I") (by decide +kernel)) (fun _ h9 => h9) rfl dX8_simulate_137 ?_
                refine fc_goi (isC := [2]) (isR := [0, 1]) (wc := [(tr, .inl (tc 0, 357, .inl trowh40))]) (wr := [(mo, .inr (8, [.int 0, .ref sc, .int ss, .int sp, .int ig, .int lf, .ref rd, .ref nw, .ref tr, .ref di, .int ac, .ref kp, .ref ik])), (nw, .inl (tc 0, 357, .inl row))]) hP hD hS hA rfl rfl (by decide) (by decide) (fc_runS (isC := [2]) (As := [.ref tr]) (rest := []) hx hb hml hown hts hK hE hP hD hS hA rfl (by decide) (c_X8_tick l D tc tr trowh40 _ (by first | exact hs1.mono (by omega) | exact hx_40.mono (by omega))) (cwS 1 hts gX8_simulate_X8_tick rfl rfl rfl hd_X8_tick ⟨Nat.le_of_ble_eq_true rfl, Nat.le_of_ble_eq_true rfl⟩) rfl hl.1 rfl (Nat.le_of_ble_eq_true rfl) dX8_simulate_140 ⟨Nat.le_of_ble_eq_true rfl, Nat.le_of_ble_eq_true rfl⟩) (fun r_21 u_21 H locs hw_21 hP hD hS => ?_)
                obtain ⟨row_21, rfl⟩ : ∃ z, z = u_21 := ⟨_, rfl⟩
                try dsimp only at hw_21
                have hP : va_P D vwCl [(mo, .inr (8, [.int 0, .ref sc, .int ss, .int sp, .int ig, .int lf, .ref rd, .ref nw, .ref tr, .ref di, .int ac, .ref kp, .ref ik])), (nw, .inl (tc 0, 357, .inl row)), (tr, .inl (tc 0, 357, .inl row_21))] H := hP
                have hD : va_D A [(mo, .inr (8, [.int 0, .ref sc, .int ss, .int sp, .int ig, .int lf, .ref rd, .ref nw, .ref tr, .ref di, .int ac, .ref kp, .ref ik])), (nw, .inl (tc 0, 357, .inl row)), (tr, .inl (tc 0, 357, .inl row_21))] := hD
                have HT := hw_21
                refine lv_pop hx hb dX8_simulate_143 rfl ?_
                refine lv_iinc (v := (x7h40 + 1)) (lv' := [(7, .int (x7h40 + 1)), (6, .int ((rn_9 / 64) - (rn_9 / 64) / 1000000 * 1000000)), (8, .int rn_9), (4, .long ((x4h40 * 6364136223846793005) + 1442695040888963407)), (0, .ref mo), (1, .long p0), (3, .int p1)]) hx hb dX8_simulate_144 hl (k := 3) rfl rfl (by decide) rfl (fun ls hl => ?_)
                refine lv_goto (tgt := 40) hx hb dX8_simulate_147 (by decide) ?_
                exact ih_40 (i_40 + 1) ((x4h40 * 6364136223846793005) + 1442695040888963407) ((rn_9 / 64) - (rn_9 / 64) / 1000000 * 1000000) (x7h40 + 1) row_21 (by rw [hb_40]; exact nI_1 _) (by have l_0 : (0 : Int32).toInt = 0 := (by decide); have l_1 : (1 : Int32).toInt = 1 := (by decide); have l_2 : (2 : Int32).toInt = 2 := (by decide); have l_3 : (3 : Int32).toInt = 3 := (by decide); have l_4 : (4 : Int32).toInt = 4 := (by decide); have qc_8 := c_8; (try simp only [fc_le, fc_lt, fc_eq] at qc_8); have qc_10 := c_10; (try simp only [fc_le, fc_lt, fc_eq] at qc_10); have qc_20 := c_20; (try simp only [fc_le, fc_lt, fc_eq] at qc_20); skip; omega) hpp (by first | exact RX_tick (m := 2 * k_40) (hs1.mono (by omega)) HT | exact RX_tick (m := 2 * k_40) (hx_40.mono (by omega)) HT) (by rw [hI_40, mX8_simulate_L40_s, mX8_simulate_S40]; rw [if_neg c_8]; rw [hw_9]; (try dsimp only); rw [if_pos c_10]; rw [if_pos c_20]; rw [hw_21]; rw [mX8_simulate_C21]; (try dsimp only); (first | done | rfl)) _ _ (hP.sub [0, 1, 2] rfl) (hD.sub [0, 1, 2] (by decide) rfl) hS ls (lv_sub hl [0, 1, 3, 4, 5, 6] rfl)
              · refine lv_aload_n hx hb dX8_simulate_126 rfl (lv_at hl 4 rfl) ?_
                refine va_get (D := D) (ci := 8) (v := .ref tr) (C := RX8) (T := TX8) (N := 13) hx hb hts iX8_simulate_X8 hown hK hP 0 rfl rfl 8 (by decide) (hts (.fieldLink RX8 19 "FrameCardModel" "trial" "[I") (by decide +kernel)) (fun _ h9 => h9) rfl dX8_simulate_127 ?_
                refine lv_iload hx hb dX8_simulate_130 (lv_at hl 0 rfl) ?_
                refine fc_goi (isC := [2]) (isR := [0, 1]) (wc := [(tr, .inl (tc 0, 357, .inl trowh40))]) (wr := [(mo, .inr (8, [.int 0, .ref sc, .int ss, .int sp, .int ig, .int lf, .ref rd, .ref nw, .ref tr, .ref di, .int ac, .ref kp, .ref ik])), (nw, .inl (tc 0, 357, .inl row))]) hP hD hS hA rfl rfl (by decide) (by decide) (fc_runS (isC := [2]) (As := [.ref tr, .int ((rn_9 / 64) - (rn_9 / 64) / 1000000 * 1000000)]) (rest := []) hx hb hml hown hts hK hE hP hD hS hA rfl (by decide) (c_X8_shootIn l D tc tr trowh40 ((rn_9 / 64) - (rn_9 / 64) / 1000000 * 1000000) _ (RX_K hx_40).2.2) (cwS 2 hts gX8_simulate_X8_shootIn rfl rfl rfl hd_X8_shootIn ⟨Nat.le_of_ble_eq_true rfl, Nat.le_of_ble_eq_true rfl⟩) rfl hl.1 rfl (Nat.le_of_ble_eq_true rfl) dX8_simulate_132 ⟨Nat.le_of_ble_eq_true rfl, Nat.le_of_ble_eq_true rfl⟩) (fun r_22 u_22 H locs hw_22 hP hD hS => ?_)
                obtain ⟨row_22, rfl⟩ : ∃ z, z = u_22 := ⟨_, rfl⟩
                try dsimp only at hw_22
                have hP : va_P D vwCl [(mo, .inr (8, [.int 0, .ref sc, .int ss, .int sp, .int ig, .int lf, .ref rd, .ref nw, .ref tr, .ref di, .int ac, .ref kp, .ref ik])), (nw, .inl (tc 0, 357, .inl row)), (tr, .inl (tc 0, 357, .inl row_22))] H := hP
                have hD : va_D A [(mo, .inr (8, [.int 0, .ref sc, .int ss, .int sp, .int ig, .int lf, .ref rd, .ref nw, .ref tr, .ref di, .int ac, .ref kp, .ref ik])), (nw, .inl (tc 0, 357, .inl row)), (tr, .inl (tc 0, 357, .inl row_22))] := hD
                have hs1 := (RX_shoot (m := 2 * k_40 + 1) (hx_40.mono (by omega)) hpp.1 hw_22)
                refine lv_pop hx hb dX8_simulate_135 rfl ?_
                refine lv_aload_n hx hb dX8_simulate_136 rfl (lv_at hl 4 rfl) ?_
                refine va_get (D := D) (ci := 8) (v := .ref tr) (C := RX8) (T := TX8) (N := 13) hx hb hts iX8_simulate_X8 hown hK hP 0 rfl rfl 8 (by decide) (hts (.fieldLink RX8 19 "FrameCardModel" "trial" "[I") (by decide +kernel)) (fun _ h9 => h9) rfl dX8_simulate_137 ?_
                refine fc_goi (isC := [2]) (isR := [0, 1]) (wc := [(tr, .inl (tc 0, 357, .inl row_22))]) (wr := [(mo, .inr (8, [.int 0, .ref sc, .int ss, .int sp, .int ig, .int lf, .ref rd, .ref nw, .ref tr, .ref di, .int ac, .ref kp, .ref ik])), (nw, .inl (tc 0, 357, .inl row))]) hP hD hS hA rfl rfl (by decide) (by decide) (fc_runS (isC := [2]) (As := [.ref tr]) (rest := []) hx hb hml hown hts hK hE hP hD hS hA rfl (by decide) (c_X8_tick l D tc tr row_22 _ (by first | exact hs1.mono (by omega) | exact hx_40.mono (by omega))) (cwS 1 hts gX8_simulate_X8_tick rfl rfl rfl hd_X8_tick ⟨Nat.le_of_ble_eq_true rfl, Nat.le_of_ble_eq_true rfl⟩) rfl hl.1 rfl (Nat.le_of_ble_eq_true rfl) dX8_simulate_140 ⟨Nat.le_of_ble_eq_true rfl, Nat.le_of_ble_eq_true rfl⟩) (fun r_23 u_23 H locs hw_23 hP hD hS => ?_)
                obtain ⟨row_23, rfl⟩ : ∃ z, z = u_23 := ⟨_, rfl⟩
                try dsimp only at hw_23
                have hP : va_P D vwCl [(mo, .inr (8, [.int 0, .ref sc, .int ss, .int sp, .int ig, .int lf, .ref rd, .ref nw, .ref tr, .ref di, .int ac, .ref kp, .ref ik])), (nw, .inl (tc 0, 357, .inl row)), (tr, .inl (tc 0, 357, .inl row_23))] H := hP
                have hD : va_D A [(mo, .inr (8, [.int 0, .ref sc, .int ss, .int sp, .int ig, .int lf, .ref rd, .ref nw, .ref tr, .ref di, .int ac, .ref kp, .ref ik])), (nw, .inl (tc 0, 357, .inl row)), (tr, .inl (tc 0, 357, .inl row_23))] := hD
                have HT := hw_23
                refine lv_pop hx hb dX8_simulate_143 rfl ?_
                refine lv_iinc (v := (x7h40 + 1)) (lv' := [(7, .int (x7h40 + 1)), (6, .int ((rn_9 / 64) - (rn_9 / 64) / 1000000 * 1000000)), (8, .int rn_9), (4, .long ((x4h40 * 6364136223846793005) + 1442695040888963407)), (0, .ref mo), (1, .long p0), (3, .int p1)]) hx hb dX8_simulate_144 hl (k := 3) rfl rfl (by decide) rfl (fun ls hl => ?_)
                refine lv_goto (tgt := 40) hx hb dX8_simulate_147 (by decide) ?_
                exact ih_40 (i_40 + 1) ((x4h40 * 6364136223846793005) + 1442695040888963407) ((rn_9 / 64) - (rn_9 / 64) / 1000000 * 1000000) (x7h40 + 1) row_23 (by rw [hb_40]; exact nI_1 _) (by have l_0 : (0 : Int32).toInt = 0 := (by decide); have l_1 : (1 : Int32).toInt = 1 := (by decide); have l_2 : (2 : Int32).toInt = 2 := (by decide); have l_3 : (3 : Int32).toInt = 3 := (by decide); have l_4 : (4 : Int32).toInt = 4 := (by decide); have qc_8 := c_8; (try simp only [fc_le, fc_lt, fc_eq] at qc_8); have qc_10 := c_10; (try simp only [fc_le, fc_lt, fc_eq] at qc_10); have qc_20 := c_20; (try simp only [fc_le, fc_lt, fc_eq] at qc_20); skip; omega) hpp (by first | exact RX_tick (m := 2 * k_40) (hs1.mono (by omega)) HT | exact RX_tick (m := 2 * k_40) (hx_40.mono (by omega)) HT) (by rw [hI_40, mX8_simulate_L40_s, mX8_simulate_S40]; rw [if_neg c_8]; rw [hw_9]; (try dsimp only); rw [if_pos c_10]; rw [if_neg c_20]; rw [hw_22]; rw [mX8_simulate_C22]; (try dsimp only); rw [hw_23]; rw [mX8_simulate_C23]; (try dsimp only); (first | done | rfl)) _ _ (hP.sub [0, 1, 2] rfl) (hD.sub [0, 1, 2] (by decide) rfl) hS ls (lv_sub hl [0, 1, 3, 4, 5, 6] rfl)
      exact loop_40 100 0 p0 123456 0 trow_7 rfl (by omega) (by decide) (hx1.mono (by omega)) (by rw [mX8_simulate]; rw [hw_1]; (try dsimp only); rw [if_neg c_2]; rw [hw_7]; (try dsimp only); (first | done | rfl)) _ _ (hP.sub [0, 1, 2] rfl) (hD.sub [0, 1, 2] (by decide) rfl) hS ls (lv_sub hl [0, 1, 2, 3, 4, 5] rfl)
    · exact absurd (by decide) c_6
