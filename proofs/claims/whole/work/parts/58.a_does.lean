/-! The reference: scripts -/
theorem fx_nle {a b : Int32} (h : ¬ a ≤ b) : b.toInt < a.toInt := by
  rw [fc_le] at h; omega
theorem fx_remk6 {g : Int32} (h : 0 ≤ g.toInt ∧ g.toInt < 10000000) : 0 ≤ (g - g / 1000000 * 1000000).toInt ∧ (g - g / 1000000 * 1000000).toInt < 1000000 := by
  rw [fc_remk (k := 1000000) (n := 1000000) (by decide) (by decide) (by decide), Int.tmod_eq_emod_of_nonneg h.1]
  omega
theorem fx_remk2 {g : Int32} (h : 0 ≤ g.toInt ∧ g.toInt < 10000000) : 0 ≤ (g - g / 100 * 100).toInt ∧ (g - g / 100 * 100).toInt < 100 := by
  rw [fc_remk (k := 100) (n := 100) (by decide) (by decide) (by decide), Int.tmod_eq_emod_of_nonneg h.1]
  omega
theorem fx_ten20 {p : Int32} (h : 1 ≤ p.toInt ∧ p.toInt ≤ 2) : (7 * p).toInt ≤ 20 := by
  rw [fc_kmul (k := 7) (n := 7) (by decide) (by omega) (by omega)]
  omega
theorem fx_p1x {p x : Int32} (h : 1 ≤ p.toInt ∧ p.toInt ≤ 2) (hx : 0 ≤ x.toInt ∧ x.toInt < p.toInt) : (p - 1 - x) = 0 ∨ (p - 1 - x) = 1 := by
  have a1 := fc_subk (x := p) (k := 1) (n := 1) (by decide) (by omega) (by omega)
  have a2 := fc_sub (x := p - 1) (y := x) (by omega) (by omega)
  have l0 : (0 : Int32).toInt = 0 := by decide
  have l1 : (1 : Int32).toInt = 1 := by decide
  rw [fc_eq, fc_eq]
  omega
theorem fx_ten20b {p x : Int32} (h : 1 ≤ p.toInt ∧ p.toInt ≤ 2) (hx : 0 ≤ x.toInt ∧ x.toInt < p.toInt) : (7 * ((p - 1) - x)).toInt ≤ 20 := by
  rcases fx_p1x h hx with e | e
  all_goals (rw [e]; decide)
theorem fx_ten0 : mX8_tenTo 0 = 1 := by
  unfold mX8_tenTo
  rw [mX8_tenTo_L4_s, mX8_tenTo_S4, if_pos (by decide)]
theorem fx_ten_L {p : Int32} : ∀ (k i n : Nat) (v : Int64), p = nI n → n < 100 → i ≤ n → n < i + k → mX8_tenTo_L4 p k v (nI i) = v * 10 ^ (n - i) := by
  intro k
  induction k with
  | zero => intro i n v h0 h1 h2 h3; omega
  | succ k ih =>
    intro i n v h0 h1 h2 h3
    rw [mX8_tenTo_L4_s, mX8_tenTo_S4, h0]
    by_cases h : i < n
    · rw [if_neg (nI_ge h (by omega)), nI_1, ← h0, ih (i + 1) n _ h0 h1 (by omega) (by omega)]
      obtain ⟨d, e⟩ : ∃ d, n - i = d + 1 := ⟨n - i - 1, by omega⟩
      rw [e, show n - (i + 1) = d by omega, Int64.pow_succ, Int64.mul_assoc, Int64.mul_comm (10 ^ d) 10]
    · obtain rfl : i = n := by omega
      rw [if_pos (nI_le (Nat.le_refl _) (by omega)), Nat.sub_self, Int64.pow_zero, Int64.mul_one]
theorem fx_ten7 : mX8_tenTo 7 = 10000000 := by
  unfold mX8_tenTo
  rw [show (0 : Int32) = nI 0 from rfl, fx_ten_L (p := 7) 21 0 7 1 rfl (by decide) (by decide) (by decide)]
  rfl
theorem fx_ten14 : mX8_tenTo 14 = 100000000000000 := by
  unfold mX8_tenTo
  rw [show (0 : Int32) = nI 0 from rfl, fx_ten_L (p := 14) 21 0 14 1 rfl (by decide) (by decide) (by decide)]
  rfl
theorem fx_tenTo {p x : Int32} {r : Int64} (hr : mX8_tenTo (7 * ((p - 1) - x)) = r) (h : 1 ≤ p.toInt ∧ p.toInt ≤ 2) (hx : 0 ≤ x.toInt ∧ x.toInt < p.toInt) : r = 1 ∨ r = 10000000 := by
  subst hr
  rcases fx_p1x h hx with e | e
  · rw [e]; exact Or.inl fx_ten0
  · rw [e]; exact Or.inr fx_ten7
theorem fx_tenNe {r : Int64} (h : r = 1 ∨ r = 10000000) : ¬ r = 0 := by
  rcases h with h | h
  all_goals (rw [h]; decide)
/-- Int64 arithmetic, as Int32's -/
theorem fl_rng (x : Int64) : -9223372036854775808 ≤ x.toInt ∧ x.toInt < 9223372036854775808 := ⟨Int64.le_toInt x, Int64.toInt_lt x⟩
theorem fl_bmod {z : Int} (h1 : -9223372036854775808 ≤ z) (h2 : z < 9223372036854775808) : z.bmod (2 ^ 64) = z := by
  rw [Int.bmod_def]
  omega
theorem fl_div {x k : Int64} {n : Int} (hk : k.toInt = n) (h0 : 0 ≤ x.toInt) (hn : 1 ≤ n) : (x / k).toInt = x.toInt / n := by
  have h1 := fl_rng x
  rw [Int64.toInt_div, hk, Int.tdiv_eq_ediv_of_nonneg h0]
  have h2 := Int.ediv_le_self n h0
  have h3 := Int.ediv_nonneg h0 (show 0 ≤ n by omega)
  exact fl_bmod (by omega) (by omega)
theorem fl_rem {x k : Int64} {n : Int} (hk : k.toInt = n) (h0 : 0 ≤ x.toInt) (hn : 1 ≤ n) : (x - x / k * k).toInt = x.toInt % n := by
  have h1 := fl_rng x
  have hq := fl_div hk h0 hn
  have h4 := Int.mul_ediv_add_emod x.toInt n
  have h5 := Int.emod_nonneg x.toInt (show n ≠ 0 by omega)
  have h3 := Int.ediv_nonneg h0 (show 0 ≤ n by omega)
  have h6 := Int.mul_nonneg h3 (show 0 ≤ n by omega)
  have hm : n * (x.toInt / n) = x.toInt / n * n := Int.mul_comm _ _
  have e1 : (x / k * k).toInt = x.toInt / n * n := by
    rw [Int64.toInt_mul, hq, hk]
    exact fl_bmod (by omega) (by omega)
  rw [Int64.toInt_sub, e1]
  rw [fl_bmod (by omega) (by omega)]
  omega
theorem fl_i32 {x : Int64} (h : -2147483648 ≤ x.toInt) (h2 : x.toInt < 2147483648) : x.toInt32.toInt = x.toInt := by
  rw [Int64.toInt_toInt32]
  exact fc_bmod h h2
theorem fx_group {p1 r : Int64} (hr : r = 1 ∨ r = 10000000) (h : 0 ≤ p1.toInt) : 0 ≤ ((((p1 / r) - (p1 / r) / 10000000 * 10000000) : Int64).toInt32).toInt ∧ ((((p1 / r) - (p1 / r) / 10000000 * 10000000) : Int64).toInt32).toInt < 10000000 := by
  have h1 : 0 ≤ (p1 / r).toInt := by
    rcases hr with e | e
    · rw [e, fl_div (k := 1) (n := 1) (by decide) h (by decide)]; omega
    · rw [e, fl_div (k := 10000000) (n := 10000000) (by decide) h (by decide)]; omega
  have h2 := fl_rem (x := p1 / r) (k := 10000000) (n := 10000000) (by decide) h1 (by decide)
  rw [fl_i32 (by omega) (by omega), h2]
  omega
theorem fx_ushr33 (y : Int64) : 0 ≤ ((y.toUInt64 >>> ((33 : Int32).toInt64.toUInt64 &&& Int64.toUInt64 63)).toInt64 : Int64).toInt32.toInt := by
  have e : ((33 : Int32).toInt64.toUInt64 &&& Int64.toUInt64 63) = 33 := by decide
  rw [e]
  have h1 : (y.toUInt64 >>> 33).toNat = y.toUInt64.toNat >>> 33 := by
    rw [UInt64.toNat_shiftRight]; rfl
  rw [Nat.shiftRight_eq_div_pow] at h1
  have h2 : y.toUInt64.toNat < 18446744073709551616 := UInt64.toNat_lt _
  generalize y.toUInt64 >>> 33 = z at h1 ⊢
  have h3 : z.toInt64.toInt = z.toNat := by
    show z.toBitVec.toInt = (z.toBitVec.toNat : Int)
    rw [BitVec.toInt_eq_toNat_of_lt]
    have : z.toBitVec.toNat = z.toNat := rfl
    omega
  rw [fl_i32 (by omega) (by omega), h3]
  omega
theorem fx_p1 {r : Int32} (h : 0 ≤ r.toInt) : 0 ≤ ((r / 64) - (r / 64) / 1000000 * 1000000).toInt ∧ ((r / 64) - (r / 64) / 1000000 * 1000000).toInt ≤ 999999 := by
  have a1 := fc_divk (x := r) (k := 64) (n := 64) (by decide) (by decide)
  rw [Int.tdiv_eq_ediv_of_nonneg h] at a1
  rw [fc_remk (k := 1000000) (n := 1000000) (by decide) (by decide) (by decide), Int.tmod_eq_emod_of_nonneg (by omega)]
  omega
theorem fx_p2 {p r : Int32} (hp : 0 ≤ p.toInt ∧ p.toInt ≤ 999999) (h : 0 ≤ r.toInt) : 0 ≤ (((p / 10) * 10) + ((r / 64) - (r / 64) / 10 * 10)).toInt ∧ (((p / 10) * 10) + ((r / 64) - (r / 64) / 10 * 10)).toInt ≤ 999999 := by
  have a1 := fc_divk (x := r) (k := 64) (n := 64) (by decide) (by decide)
  rw [Int.tdiv_eq_ediv_of_nonneg h] at a1
  have a2 := fc_remk (x := r / 64) (k := 10) (n := 10) (by decide) (by decide) (by decide)
  rw [Int.tmod_eq_emod_of_nonneg (by omega)] at a2
  have a3 := fc_divk (x := p) (k := 10) (n := 10) (by decide) (by decide)
  rw [Int.tdiv_eq_ediv_of_nonneg hp.1] at a3
  have a4 := fc_mulk (x := p / 10) (k := 10) (n := 10) (by decide) (by omega) (by omega)
  rw [fc_add (by omega) (by omega)]
  omega
--# X8_does
theorem hd_X8_sets : yX8_sets.cls = RX8 ∧ yX8_sets.cls ≠ "java/lang/invoke/MethodHandle" ∧ yX8_sets.cls ≠ "java/lang/invoke/VarHandle" ∧ (parseMethodDescriptor yX8_sets.desc).map (fun d => d.parameters.length) = some 2 := by decide +kernel
theorem hd_X8_setsn : yX8_sets.cls ≠ "java/lang/invoke/MethodHandle" ∧ yX8_sets.cls ≠ "java/lang/invoke/VarHandle" ∧ (parseMethodDescriptor yX8_sets.desc).map (fun d => d.parameters.length) = some 2 := by decide +kernel
theorem hd_X8_keeps : yX8_keeps.cls = RX8 ∧ yX8_keeps.cls ≠ "java/lang/invoke/MethodHandle" ∧ yX8_keeps.cls ≠ "java/lang/invoke/VarHandle" ∧ (parseMethodDescriptor yX8_keeps.desc).map (fun d => d.parameters.length) = some 1 := by decide +kernel
theorem hd_X8_keepsn : yX8_keeps.cls ≠ "java/lang/invoke/MethodHandle" ∧ yX8_keeps.cls ≠ "java/lang/invoke/VarHandle" ∧ (parseMethodDescriptor yX8_keeps.desc).map (fun d => d.parameters.length) = some 1 := by decide +kernel
theorem hd_X8_goes : yX8_goes.cls = RX8 ∧ yX8_goes.cls ≠ "java/lang/invoke/MethodHandle" ∧ yX8_goes.cls ≠ "java/lang/invoke/VarHandle" ∧ (parseMethodDescriptor yX8_goes.desc).map (fun d => d.parameters.length) = some 1 := by decide +kernel
theorem hd_X8_goesn : yX8_goes.cls ≠ "java/lang/invoke/MethodHandle" ∧ yX8_goes.cls ≠ "java/lang/invoke/VarHandle" ∧ (parseMethodDescriptor yX8_goes.desc).map (fun d => d.parameters.length) = some 1 := by decide +kernel
theorem hd_X8_dropsOne : yX8_dropsOne.cls = RX8 ∧ yX8_dropsOne.cls ≠ "java/lang/invoke/MethodHandle" ∧ yX8_dropsOne.cls ≠ "java/lang/invoke/VarHandle" ∧ (parseMethodDescriptor yX8_dropsOne.desc).map (fun d => d.parameters.length) = some 1 := by decide +kernel
theorem hd_X8_dropsOnen : yX8_dropsOne.cls ≠ "java/lang/invoke/MethodHandle" ∧ yX8_dropsOne.cls ≠ "java/lang/invoke/VarHandle" ∧ (parseMethodDescriptor yX8_dropsOne.desc).map (fun d => d.parameters.length) = some 1 := by decide +kernel
noncomputable def mX8_does (rf : Int32) (ss : Int32) (sp : Int32) (ig : Int32) (lf : Int32) (ac : Int32) (trow : Nat → Int32) (p0 : Int32) : Int32 × (Nat → Int32) :=
  if 100 ≤ (p0 - p0 / 1000000 * 1000000) then
    if (p0 / 1000000) = 1 then
      match mX8_shootIn trow (p0 - p0 / 1000000 * 1000000) with
      | (r_3, row_3) =>
        (1, row_3)
    else
      if (p0 / 1000000) = 2 then
        (0, trow)
      else
        if (p0 / 1000000) = 3 then
          (0, trow)
        else
          if (p0 / 1000000) = 4 then
            if (((p0 - p0 / 1000000 * 1000000) / 100) - ((p0 - p0 / 1000000 * 1000000) / 100) / 1000 * 1000) = 0 then
              match mX8_sets rf ss sp ig lf ac trow ((p0 - p0 / 1000000 * 1000000) / 100000) (p0 - p0 / 100 * 100) with
              | (r_10, trow_10) =>
                if r_10 = 0 then
                  (0, trow_10)
                else
                  (1, trow_10)
            else
              (0, trow)
          else
            if (p0 / 1000000) = 5 then
              (0, trow)
            else
              if (p0 / 1000000) = 6 then
                (0, trow)
              else
                if (p0 / 1000000) = 7 then
                  (0, trow)
                else
                  if (p0 / 1000000) = 8 then
                    (0, trow)
                  else
                    if (p0 / 1000000) = 9 then
                      if 10000 ≤ (p0 - p0 / 1000000 * 1000000) then
                        (0, trow)
                      else
                        let r_22 := mX8_keeps rf ss sp ig lf ac trow (p0 - p0 / 1000000 * 1000000)
                        if r_22 = 0 then
                          (0, trow)
                        else
                          (1, trow)
                    else
                      (0, trow)
  else
    if (p0 / 1000000) = 1 then
      match mX8_shootIn trow (p0 - p0 / 1000000 * 1000000) with
      | (r_25, row_25) =>
        (1, row_25)
    else
      if (p0 / 1000000) = 2 then
        match mX8_goes rf ss sp ig lf ac trow (p0 - p0 / 100 * 100) with
        | (r_28, trow_28) =>
          if r_28 = 0 then
            (0, trow_28)
          else
            (1, trow_28)
      else
        if (p0 / 1000000) = 3 then
          match mX8_dropsOne rf ss sp ig lf ac trow (p0 - p0 / 100 * 100) with
          | (r_32, trow_32) =>
            if r_32 = 0 then
              (0, trow_32)
            else
              (1, trow_32)
        else
          if (p0 / 1000000) = 4 then
            if (((p0 - p0 / 1000000 * 1000000) / 100) - ((p0 - p0 / 1000000 * 1000000) / 100) / 1000 * 1000) = 0 then
              match mX8_sets rf ss sp ig lf ac trow ((p0 - p0 / 1000000 * 1000000) / 100000) (p0 - p0 / 100 * 100) with
              | (r_36, trow_36) =>
                if r_36 = 0 then
                  (0, trow_36)
                else
                  (1, trow_36)
            else
              (0, trow)
          else
            if (p0 / 1000000) = 5 then
              if (trow (16 : Int32).toNatClampNeg) < (p0 - p0 / 100 * 100) then
                (0, trow)
              else
                (1, trow)
            else
              if (p0 / 1000000) = 6 then
                if (p0 - p0 / 100 * 100) < (trow (6 : Int32).toNatClampNeg) then
                  (0, trow)
                else
                  (1, trow)
              else
                if (p0 / 1000000) = 7 then
                  if (p0 - p0 / 100 * 100) < (trow (10 : Int32).toNatClampNeg) then
                    (0, trow)
                  else
                    (1, trow)
                else
                  if (p0 / 1000000) = 8 then
                    let r_49 := mX8_count trow (-1)
                    if r_49 < (p0 - p0 / 100 * 100) then
                      (0, trow)
                    else
                      (1, trow)
                  else
                    if (p0 / 1000000) = 9 then
                      if 10000 ≤ (p0 - p0 / 1000000 * 1000000) then
                        (0, trow)
                      else
                        let r_53 := mX8_keeps rf ss sp ig lf ac trow (p0 - p0 / 1000000 * 1000000)
                        if r_53 = 0 then
                          (0, trow)
                        else
                          (1, trow)
                    else
                      (0, trow)
set_option maxRecDepth 20000 in
theorem iX8_does_X8 : ∀ w ∈ wsX80, w ∈ wsX8_does := by decide +kernel
abbrev rmX8_does : Room := { frames := 6, cells := 0, slots := 0, locals := 135 }
set_option maxHeartbeats 4000000 in
set_option maxRecDepth 100000 in
theorem c_X8_does (l : Launch) (D : va_G) (tc : Nat → ClassId) (mo : Nat) (sc : Nat) (rd : Nat) (nw : Nat) (tr : Nat) (di : Nat) (kp : Nat) (ik : Nat) (rf : Int32) (ss : Int32) (sp : Int32) (ig : Int32) (lf : Int32) (ac : Int32) (trow : Nat → Int32) (p0 : Int32) (sz : Nat) (hR : RXn 60 trow) (hg : 0 ≤ p0.toInt ∧ p0.toInt < 10000000) : Met l yX8_does wsX8_does rmX8_does (va_Pc [.ref mo, .int p0] (fcB D tc [(mo, .inr (8, [.int rf, .ref sc, .int ss, .int sp, .int ig, .int lf, .ref rd, .ref nw, .ref tr, .ref di, .int ac, .ref kp, .ref ik])), (tr, .inl (tc 0, 357, .inl trow))] sz)) (va_Qi (fun (r : Int32) (u : Nat → Int32) => mX8_does rf ss sp ig lf ac trow p0 = (r, u)) (fun u t => fcO D (va_A [(mo, .inr (8, [.int rf, .ref sc, .int ss, .int sp, .int ig, .int lf, .ref rd, .ref nw, .ref tr, .ref di, .int ac, .ref kp, .ref ik])), (tr, .inl (tc 0, 357, .inl trow))] sz) ((fun (u : Nat → Int32) => [(mo, .inr (8, [.int rf, .ref sc, .int ss, .int sp, .int ig, .int lf, .ref rd, .ref nw, .ref tr, .ref di, .int ac, .ref kp, .ref ik])), (tr, .inl (tc 0, 357, .inl u))]) u) t) (va_A [(mo, .inr (8, [.int rf, .ref sc, .int ss, .int sp, .int ig, .int lf, .ref rd, .ref nw, .ref tr, .ref di, .int ac, .ref kp, .ref ik])), (tr, .inl (tc 0, 357, .inl trow))] sz)) 0 0 (va_A [(mo, .inr (8, [.int rf, .ref sc, .int ss, .int sp, .int ig, .int lf, .ref rd, .ref nw, .ref tr, .ref di, .int ac, .ref kp, .ref ik])), (tr, .inl (tc 0, 357, .inl trow))] sz) := by
  refine fc_ofWz (own := RX8) (cc := cX8_does) (maxL := 6) (W1 := (fun (u : Nat → Int32) => [(mo, .inr (8, [.int rf, .ref sc, .int ss, .int sp, .int ig, .int lf, .ref rd, .ref nw, .ref tr, .ref di, .int ac, .ref kp, .ref ik])), (tr, .inl (tc 0, 357, .inl u))])) rfl (by decide) rfl (Nat.le_of_ble_eq_true rfl) ?_
  intro p e s m args below meth c A Q hx hb hml hown hts hK hE hP hD hS hA hin hret ls hl
  have hl : lv_has ls 6 [(0, .ref mo), (1, .int p0)] := hl
  have hd1 := fx_remk6 hg
  have hd2 := fx_remk2 hg
  refine lv_iload_n hx hb dX8_does_0 rfl (lv_at hl 1 rfl) ?_
  refine lv_ldc (v := 1000000) hx hb hown (hts (.constant RX8 199 1000000) (by decide +kernel)) dX8_does_1 ?_
  refine lv_idiv hx hb dX8_does_3 (by decide) ?_
  refine lv_istore_n (lv' := [(2, .int (p0 / 1000000)), (0, .ref mo), (1, .int p0)]) hx hb dX8_does_4 rfl hl (by decide) rfl (fun ls hl => ?_)
  refine lv_iload_n hx hb dX8_does_5 rfl (lv_at hl 2 rfl) ?_
  refine lv_ldc (v := 1000000) hx hb hown (hts (.constant RX8 199 1000000) (by decide +kernel)) dX8_does_6 ?_
  refine lv_irem hx hb dX8_does_8 (by decide) ?_
  refine lv_istore_n (lv' := [(3, .int (p0 - p0 / 1000000 * 1000000)), (2, .int (p0 / 1000000)), (0, .ref mo), (1, .int p0)]) hx hb dX8_does_9 rfl hl (by decide) rfl (fun ls hl => ?_)
  refine lv_iload_n hx hb dX8_does_10 rfl (lv_at hl 3 rfl) ?_
  refine lv_bipush (v := 100) hx hb dX8_does_11 (by decide) ?_
  refine lv_irem hx hb dX8_does_13 (by decide) ?_
  refine lv_istore (lv' := [(4, .int (p0 - p0 / 100 * 100)), (3, .int (p0 - p0 / 1000000 * 1000000)), (2, .int (p0 / 1000000)), (0, .ref mo), (1, .int p0)]) hx hb dX8_does_14 hl (by decide) rfl (fun ls hl => ?_)
  refine lv_iload_n hx hb dX8_does_16 rfl (lv_at hl 1 rfl) ?_
  refine lv_bipush (v := 100) hx hb dX8_does_17 (by decide) ?_
  refine lv_icmp_ge (tgt := 26) hx hb dX8_does_19 (by decide) (fun c_1 => ?_) (fun c_1 => ?_)
  · refine lv_iconst (v := 0) hx hb dX8_does_26 (by decide) ?_
    refine lv_istore (lv' := [(5, .int 0), (4, .int (p0 - p0 / 100 * 100)), (3, .int (p0 - p0 / 1000000 * 1000000)), (2, .int (p0 / 1000000)), (0, .ref mo), (1, .int p0)]) hx hb dX8_does_27 hl (by decide) rfl (fun ls hl => ?_)
    refine lv_iload_n hx hb dX8_does_29 rfl (lv_at hl 3 rfl) ?_
    by_cases c_2 : (p0 / 1000000) = 1
    · refine lv_tableIn (tgt := 80) hx hb dX8_does_30 (by rw [c_2]; decide) (by rw [c_2]; decide) (by rw [c_2]; rfl) (by decide) ?_
      refine lv_aload_n hx hb dX8_does_80 rfl (lv_at hl 4 rfl) ?_
      refine va_get (D := D) (ci := 8) (v := .ref tr) (C := RX8) (T := TX8) (N := 13) hx hb hts iX8_does_X8 hown hK hP 0 rfl rfl 8 (by decide) (hts (.fieldLink RX8 19 "FrameCardModel" "trial" "[I") (by decide +kernel)) (fun _ h9 => h9) rfl dX8_does_81 ?_
      refine lv_iload_n hx hb dX8_does_84 rfl (lv_at hl 2 rfl) ?_
      refine fc_goi (isC := [1]) (isR := [0]) (wc := [(tr, .inl (tc 0, 357, .inl trow))]) (wr := [(mo, .inr (8, [.int rf, .ref sc, .int ss, .int sp, .int ig, .int lf, .ref rd, .ref nw, .ref tr, .ref di, .int ac, .ref kp, .ref ik]))]) hP hD hS hA rfl rfl (by decide) (by decide) (fc_runS (isC := [1]) (As := [.ref tr, .int (p0 - p0 / 1000000 * 1000000)]) (rest := []) hx hb hml hown hts hK hE hP hD hS hA rfl (by decide) (c_X8_shootIn l D tc tr trow (p0 - p0 / 1000000 * 1000000) _ (RX_K hR).2.2) (cwS 2 hts gX8_does_X8_shootIn rfl rfl rfl hd_X8_shootIn ⟨Nat.le_of_ble_eq_true rfl, Nat.le_of_ble_eq_true rfl⟩) rfl hl.1 rfl (Nat.le_of_ble_eq_true rfl) dX8_does_85 ⟨Nat.le_of_ble_eq_true rfl, Nat.le_of_ble_eq_true rfl⟩) (fun r_3 u_3 H locs hw_3 hP hD hS => ?_)
      obtain ⟨row_3, rfl⟩ : ∃ z, z = u_3 := ⟨_, rfl⟩
      try dsimp only at hw_3
      have hP : va_P D vwCl [(mo, .inr (8, [.int rf, .ref sc, .int ss, .int sp, .int ig, .int lf, .ref rd, .ref nw, .ref tr, .ref di, .int ac, .ref kp, .ref ik])), (tr, .inl (tc 0, 357, .inl row_3))] H := hP
      have hD : va_D A [(mo, .inr (8, [.int rf, .ref sc, .int ss, .int sp, .int ig, .int lf, .ref rd, .ref nw, .ref tr, .ref di, .int ac, .ref kp, .ref ik])), (tr, .inl (tc 0, 357, .inl row_3))] := hD
      refine lv_pop hx hb dX8_does_88 rfl ?_
      refine lv_iconst (v := 1) hx hb dX8_does_89 (by decide) ?_
      exact hret _ _ (1) row_3 _ _ (Or.inr rfl) (by rw [mX8_does]; (try dsimp only); rw [if_pos c_1]; rw [if_pos c_2]; rw [hw_3]; (try dsimp only); (first | done | rfl)) (hP.sub [0, 1] rfl) (hD.sub [0, 1] (by decide) rfl) hS dX8_does_90
    by_cases c_4 : (p0 / 1000000) = 2
    · refine lv_tableIn (tgt := 91) hx hb dX8_does_30 (by rw [c_4]; decide) (by rw [c_4]; decide) (by rw [c_4]; rfl) (by decide) ?_
      refine lv_iload hx hb dX8_does_91 (lv_at hl 0 rfl) ?_
      refine lv_if_eq (tgt := 109) hx hb dX8_does_93 (by decide) (fun c_5 => ?_) (fun c_5 => ?_)
      · refine lv_iconst (v := 0) hx hb dX8_does_109 (by decide) ?_
        exact hret _ _ (0) trow _ _ (Or.inl rfl) (by rw [mX8_does]; (try dsimp only); rw [if_pos c_1]; rw [if_neg c_2]; rw [if_pos c_4]; (first | done | rfl)) (hP.sub [0, 1] rfl) (hD.sub [0, 1] (by decide) rfl) hS dX8_does_110
      · exact absurd (by decide) c_5
    by_cases c_6 : (p0 / 1000000) = 3
    · refine lv_tableIn (tgt := 111) hx hb dX8_does_30 (by rw [c_6]; decide) (by rw [c_6]; decide) (by rw [c_6]; rfl) (by decide) ?_
      refine lv_iload hx hb dX8_does_111 (lv_at hl 0 rfl) ?_
      refine lv_if_eq (tgt := 129) hx hb dX8_does_113 (by decide) (fun c_7 => ?_) (fun c_7 => ?_)
      · refine lv_iconst (v := 0) hx hb dX8_does_129 (by decide) ?_
        exact hret _ _ (0) trow _ _ (Or.inl rfl) (by rw [mX8_does]; (try dsimp only); rw [if_pos c_1]; rw [if_neg c_2]; rw [if_neg c_4]; rw [if_pos c_6]; (first | done | rfl)) (hP.sub [0, 1] rfl) (hD.sub [0, 1] (by decide) rfl) hS dX8_does_130
      · exact absurd (by decide) c_7
    by_cases c_8 : (p0 / 1000000) = 4
    · refine lv_tableIn (tgt := 131) hx hb dX8_does_30 (by rw [c_8]; decide) (by rw [c_8]; decide) (by rw [c_8]; rfl) (by decide) ?_
      refine lv_iload_n hx hb dX8_does_131 rfl (lv_at hl 2 rfl) ?_
      refine lv_bipush (v := 100) hx hb dX8_does_132 (by decide) ?_
      refine lv_idiv hx hb dX8_does_134 (by decide) ?_
      refine lv_sipush (v := 1000) hx hb dX8_does_135 (by decide) ?_
      refine lv_irem hx hb dX8_does_138 (by decide) ?_
      refine lv_if_ne (tgt := 159) hx hb dX8_does_139 (by decide) (fun c_9 => ?_) (fun c_9 => ?_)
      · refine lv_iconst (v := 0) hx hb dX8_does_159 (by decide) ?_
        exact hret _ _ (0) trow _ _ (Or.inl rfl) (by rw [mX8_does]; (try dsimp only); rw [if_pos c_1]; rw [if_neg c_2]; rw [if_neg c_4]; rw [if_neg c_6]; rw [if_pos c_8]; rw [if_neg c_9]; (first | done | rfl)) (hP.sub [0, 1] rfl) (hD.sub [0, 1] (by decide) rfl) hS dX8_does_160
      · refine lv_aload_n hx hb dX8_does_142 rfl (lv_at hl 4 rfl) ?_
        refine lv_iload_n hx hb dX8_does_143 rfl (lv_at hl 2 rfl) ?_
        refine lv_ldc (v := 100000) hx hb hown (hts (.constant RX8 206 100000) (by decide +kernel)) dX8_does_144 ?_
        refine lv_idiv hx hb dX8_does_146 (by decide) ?_
        refine lv_iload hx hb dX8_does_147 (lv_at hl 1 rfl) ?_
        refine fc_goi (isC := [0, 1]) (isR := []) (wc := [(mo, .inr (8, [.int rf, .ref sc, .int ss, .int sp, .int ig, .int lf, .ref rd, .ref nw, .ref tr, .ref di, .int ac, .ref kp, .ref ik])), (tr, .inl (tc 0, 357, .inl trow))]) (wr := []) hP hD hS hA rfl rfl (by decide) (by decide) (fc_runV (isC := [0, 1]) (As := [.int ((p0 - p0 / 1000000 * 1000000) / 100000), .int (p0 - p0 / 100 * 100)]) (rest := []) hx hb hml hown hts hK hE hP hD hS hA rfl (by decide) (c_X8_sets l D tc mo sc rd nw tr di kp ik rf ss sp ig lf ac trow ((p0 - p0 / 1000000 * 1000000) / 100000) (p0 - p0 / 100 * 100) _ ) (cwV 2 hts gX8_does_X8_sets rfl rfl rfl hd_X8_sets ⟨Nat.le_of_ble_eq_true rfl, Nat.le_of_ble_eq_true rfl⟩) (ci := 8) rfl rfl rfl rfl hl.1 rfl (Nat.le_of_ble_eq_true rfl) dX8_does_149 ⟨Nat.le_of_ble_eq_true rfl, Nat.le_of_ble_eq_true rfl⟩) (fun r_10 u_10 H locs hw_10 hP hD hS => ?_)
        obtain ⟨trow_10, rfl⟩ : ∃ z, z = u_10 := ⟨_, rfl⟩
        try dsimp only at hw_10
        have hP : va_P D vwCl [(mo, .inr (8, [.int rf, .ref sc, .int ss, .int sp, .int ig, .int lf, .ref rd, .ref nw, .ref tr, .ref di, .int ac, .ref kp, .ref ik])), (tr, .inl (tc 0, 357, .inl trow_10))] H := hP
        have hD : va_D A [(mo, .inr (8, [.int rf, .ref sc, .int ss, .int sp, .int ig, .int lf, .ref rd, .ref nw, .ref tr, .ref di, .int ac, .ref kp, .ref ik])), (tr, .inl (tc 0, 357, .inl trow_10))] := hD
        refine lv_if_eq (tgt := 159) hx hb dX8_does_152 (by decide) (fun c_11 => ?_) (fun c_11 => ?_)
        · refine lv_iconst (v := 0) hx hb dX8_does_159 (by decide) ?_
          exact hret _ _ (0) trow_10 _ _ (Or.inl rfl) (by rw [mX8_does]; (try dsimp only); rw [if_pos c_1]; rw [if_neg c_2]; rw [if_neg c_4]; rw [if_neg c_6]; rw [if_pos c_8]; rw [if_pos c_9]; rw [hw_10]; (try dsimp only); rw [if_pos c_11]; (first | done | rfl)) (hP.sub [0, 1] rfl) (hD.sub [0, 1] (by decide) rfl) hS dX8_does_160
        · refine lv_iconst (v := 1) hx hb dX8_does_155 (by decide) ?_
          refine lv_goto (tgt := 160) hx hb dX8_does_156 (by decide) ?_
          exact hret _ _ (1) trow_10 _ _ (Or.inr rfl) (by rw [mX8_does]; (try dsimp only); rw [if_pos c_1]; rw [if_neg c_2]; rw [if_neg c_4]; rw [if_neg c_6]; rw [if_pos c_8]; rw [if_pos c_9]; rw [hw_10]; (try dsimp only); rw [if_neg c_11]; (first | done | rfl)) (hP.sub [0, 1] rfl) (hD.sub [0, 1] (by decide) rfl) hS dX8_does_160
    by_cases c_12 : (p0 / 1000000) = 5
    · refine lv_tableIn (tgt := 161) hx hb dX8_does_30 (by rw [c_12]; decide) (by rw [c_12]; decide) (by rw [c_12]; rfl) (by decide) ?_
      refine lv_iload hx hb dX8_does_161 (lv_at hl 0 rfl) ?_
      refine lv_if_eq (tgt := 182) hx hb dX8_does_163 (by decide) (fun c_13 => ?_) (fun c_13 => ?_)
      · refine lv_iconst (v := 0) hx hb dX8_does_182 (by decide) ?_
        exact hret _ _ (0) trow _ _ (Or.inl rfl) (by rw [mX8_does]; (try dsimp only); rw [if_pos c_1]; rw [if_neg c_2]; rw [if_neg c_4]; rw [if_neg c_6]; rw [if_neg c_8]; rw [if_pos c_12]; (first | done | rfl)) (hP.sub [0, 1] rfl) (hD.sub [0, 1] (by decide) rfl) hS dX8_does_183
      · exact absurd (by decide) c_13
    by_cases c_14 : (p0 / 1000000) = 6
    · refine lv_tableIn (tgt := 184) hx hb dX8_does_30 (by rw [c_14]; decide) (by rw [c_14]; decide) (by rw [c_14]; rfl) (by decide) ?_
      refine lv_iload hx hb dX8_does_184 (lv_at hl 0 rfl) ?_
      refine lv_if_eq (tgt := 205) hx hb dX8_does_186 (by decide) (fun c_15 => ?_) (fun c_15 => ?_)
      · refine lv_iconst (v := 0) hx hb dX8_does_205 (by decide) ?_
        exact hret _ _ (0) trow _ _ (Or.inl rfl) (by rw [mX8_does]; (try dsimp only); rw [if_pos c_1]; rw [if_neg c_2]; rw [if_neg c_4]; rw [if_neg c_6]; rw [if_neg c_8]; rw [if_neg c_12]; rw [if_pos c_14]; (first | done | rfl)) (hP.sub [0, 1] rfl) (hD.sub [0, 1] (by decide) rfl) hS dX8_does_206
      · exact absurd (by decide) c_15
    by_cases c_16 : (p0 / 1000000) = 7
    · refine lv_tableIn (tgt := 207) hx hb dX8_does_30 (by rw [c_16]; decide) (by rw [c_16]; decide) (by rw [c_16]; rfl) (by decide) ?_
      refine lv_iload hx hb dX8_does_207 (lv_at hl 0 rfl) ?_
      refine lv_if_eq (tgt := 228) hx hb dX8_does_209 (by decide) (fun c_17 => ?_) (fun c_17 => ?_)
      · refine lv_iconst (v := 0) hx hb dX8_does_228 (by decide) ?_
        exact hret _ _ (0) trow _ _ (Or.inl rfl) (by rw [mX8_does]; (try dsimp only); rw [if_pos c_1]; rw [if_neg c_2]; rw [if_neg c_4]; rw [if_neg c_6]; rw [if_neg c_8]; rw [if_neg c_12]; rw [if_neg c_14]; rw [if_pos c_16]; (first | done | rfl)) (hP.sub [0, 1] rfl) (hD.sub [0, 1] (by decide) rfl) hS dX8_does_229
      · exact absurd (by decide) c_17
    by_cases c_18 : (p0 / 1000000) = 8
    · refine lv_tableIn (tgt := 230) hx hb dX8_does_30 (by rw [c_18]; decide) (by rw [c_18]; decide) (by rw [c_18]; rfl) (by decide) ?_
      refine lv_iload hx hb dX8_does_230 (lv_at hl 0 rfl) ?_
      refine lv_if_eq (tgt := 252) hx hb dX8_does_232 (by decide) (fun c_19 => ?_) (fun c_19 => ?_)
      · refine lv_iconst (v := 0) hx hb dX8_does_252 (by decide) ?_
        exact hret _ _ (0) trow _ _ (Or.inl rfl) (by rw [mX8_does]; (try dsimp only); rw [if_pos c_1]; rw [if_neg c_2]; rw [if_neg c_4]; rw [if_neg c_6]; rw [if_neg c_8]; rw [if_neg c_12]; rw [if_neg c_14]; rw [if_neg c_16]; rw [if_pos c_18]; (first | done | rfl)) (hP.sub [0, 1] rfl) (hD.sub [0, 1] (by decide) rfl) hS dX8_does_253
      · exact absurd (by decide) c_19
    by_cases c_20 : (p0 / 1000000) = 9
    · refine lv_tableIn (tgt := 254) hx hb dX8_does_30 (by rw [c_20]; decide) (by rw [c_20]; decide) (by rw [c_20]; rfl) (by decide) ?_
      refine lv_iload_n hx hb dX8_does_254 rfl (lv_at hl 2 rfl) ?_
      refine lv_sipush (v := 10000) hx hb dX8_does_255 (by decide) ?_
      refine lv_icmp_ge (tgt := 273) hx hb dX8_does_258 (by decide) (fun c_21 => ?_) (fun c_21 => ?_)
      · refine lv_iconst (v := 0) hx hb dX8_does_273 (by decide) ?_
        exact hret _ _ (0) trow _ _ (Or.inl rfl) (by rw [mX8_does]; (try dsimp only); rw [if_pos c_1]; rw [if_neg c_2]; rw [if_neg c_4]; rw [if_neg c_6]; rw [if_neg c_8]; rw [if_neg c_12]; rw [if_neg c_14]; rw [if_neg c_16]; rw [if_neg c_18]; rw [if_pos c_20]; rw [if_pos c_21]; (first | done | rfl)) (hP.sub [0, 1] rfl) (hD.sub [0, 1] (by decide) rfl) hS dX8_does_274
      · refine lv_aload_n hx hb dX8_does_261 rfl (lv_at hl 4 rfl) ?_
        refine lv_iload_n hx hb dX8_does_262 rfl (lv_at hl 2 rfl) ?_
        refine fc_goi (isC := [0, 1]) (isR := []) (wc := [(mo, .inr (8, [.int rf, .ref sc, .int ss, .int sp, .int ig, .int lf, .ref rd, .ref nw, .ref tr, .ref di, .int ac, .ref kp, .ref ik])), (tr, .inl (tc 0, 357, .inl trow))]) (wr := []) hP hD hS hA rfl rfl (by decide) (by decide) (fc_runV (isC := [0, 1]) (As := [.int (p0 - p0 / 1000000 * 1000000)]) (rest := []) hx hb hml hown hts hK hE hP hD hS hA rfl (by decide) (c_X8_keeps l D tc mo sc rd nw tr di kp ik rf ss sp ig lf ac trow (p0 - p0 / 1000000 * 1000000) _ (hR.mono (by omega))) (cwV 1 hts gX8_does_X8_keeps rfl rfl rfl hd_X8_keeps ⟨Nat.le_of_ble_eq_true rfl, Nat.le_of_ble_eq_true rfl⟩) (ci := 8) rfl rfl rfl rfl hl.1 rfl (Nat.le_of_ble_eq_true rfl) dX8_does_263 ⟨Nat.le_of_ble_eq_true rfl, Nat.le_of_ble_eq_true rfl⟩) (fun r_22 u_22 H locs hw_22 hP hD hS => ?_)
        try dsimp only at hw_22
        have hP : va_P D vwCl [(mo, .inr (8, [.int rf, .ref sc, .int ss, .int sp, .int ig, .int lf, .ref rd, .ref nw, .ref tr, .ref di, .int ac, .ref kp, .ref ik])), (tr, .inl (tc 0, 357, .inl trow))] H := hP
        have hD : va_D A [(mo, .inr (8, [.int rf, .ref sc, .int ss, .int sp, .int ig, .int lf, .ref rd, .ref nw, .ref tr, .ref di, .int ac, .ref kp, .ref ik])), (tr, .inl (tc 0, 357, .inl trow))] := hD
        refine lv_if_eq (tgt := 273) hx hb dX8_does_266 (by decide) (fun c_23 => ?_) (fun c_23 => ?_)
        · refine lv_iconst (v := 0) hx hb dX8_does_273 (by decide) ?_
          exact hret _ _ (0) trow _ _ (Or.inl rfl) (by rw [mX8_does]; (try dsimp only); rw [if_pos c_1]; rw [if_neg c_2]; rw [if_neg c_4]; rw [if_neg c_6]; rw [if_neg c_8]; rw [if_neg c_12]; rw [if_neg c_14]; rw [if_neg c_16]; rw [if_neg c_18]; rw [if_pos c_20]; rw [if_neg c_21]; rw [hw_22]; (try dsimp only); rw [if_pos c_23]; (first | done | rfl)) (hP.sub [0, 1] rfl) (hD.sub [0, 1] (by decide) rfl) hS dX8_does_274
        · refine lv_iconst (v := 1) hx hb dX8_does_269 (by decide) ?_
          refine lv_goto (tgt := 274) hx hb dX8_does_270 (by decide) ?_
          exact hret _ _ (1) trow _ _ (Or.inr rfl) (by rw [mX8_does]; (try dsimp only); rw [if_pos c_1]; rw [if_neg c_2]; rw [if_neg c_4]; rw [if_neg c_6]; rw [if_neg c_8]; rw [if_neg c_12]; rw [if_neg c_14]; rw [if_neg c_16]; rw [if_neg c_18]; rw [if_pos c_20]; rw [if_neg c_21]; rw [hw_22]; (try dsimp only); rw [if_neg c_23]; (first | done | rfl)) (hP.sub [0, 1] rfl) (hD.sub [0, 1] (by decide) rfl) hS dX8_does_274
    refine lv_tableOut (tgt := 275) hx hb dX8_does_30 (by have qc_2 := c_2; simp only [fc_eq] at qc_2; have lc_2 : (1 : Int32).toInt = 1 := (by decide); have qc_4 := c_4; simp only [fc_eq] at qc_4; have lc_4 : (2 : Int32).toInt = 2 := (by decide); have qc_6 := c_6; simp only [fc_eq] at qc_6; have lc_6 : (3 : Int32).toInt = 3 := (by decide); have qc_8 := c_8; simp only [fc_eq] at qc_8; have lc_8 : (4 : Int32).toInt = 4 := (by decide); have qc_12 := c_12; simp only [fc_eq] at qc_12; have lc_12 : (5 : Int32).toInt = 5 := (by decide); have qc_14 := c_14; simp only [fc_eq] at qc_14; have lc_14 : (6 : Int32).toInt = 6 := (by decide); have qc_16 := c_16; simp only [fc_eq] at qc_16; have lc_16 : (7 : Int32).toInt = 7 := (by decide); have qc_18 := c_18; simp only [fc_eq] at qc_18; have lc_18 : (8 : Int32).toInt = 8 := (by decide); have qc_20 := c_20; simp only [fc_eq] at qc_20; have lc_20 : (9 : Int32).toInt = 9 := (by decide); omega) (by decide) ?_
    refine lv_iconst (v := 0) hx hb dX8_does_275 (by decide) ?_
    exact hret _ _ (0) trow _ _ (Or.inl rfl) (by rw [mX8_does]; (try dsimp only); rw [if_pos c_1]; rw [if_neg c_2]; rw [if_neg c_4]; rw [if_neg c_6]; rw [if_neg c_8]; rw [if_neg c_12]; rw [if_neg c_14]; rw [if_neg c_16]; rw [if_neg c_18]; rw [if_neg c_20]; (first | done | rfl)) (hP.sub [0, 1] rfl) (hD.sub [0, 1] (by decide) rfl) hS dX8_does_276
  · refine lv_iconst (v := 1) hx hb dX8_does_22 (by decide) ?_
    refine lv_goto (tgt := 27) hx hb dX8_does_23 (by decide) ?_
    refine lv_istore (lv' := [(5, .int 1), (4, .int (p0 - p0 / 100 * 100)), (3, .int (p0 - p0 / 1000000 * 1000000)), (2, .int (p0 / 1000000)), (0, .ref mo), (1, .int p0)]) hx hb dX8_does_27 hl (by decide) rfl (fun ls hl => ?_)
    refine lv_iload_n hx hb dX8_does_29 rfl (lv_at hl 3 rfl) ?_
    by_cases c_24 : (p0 / 1000000) = 1
    · refine lv_tableIn (tgt := 80) hx hb dX8_does_30 (by rw [c_24]; decide) (by rw [c_24]; decide) (by rw [c_24]; rfl) (by decide) ?_
      refine lv_aload_n hx hb dX8_does_80 rfl (lv_at hl 4 rfl) ?_
      refine va_get (D := D) (ci := 8) (v := .ref tr) (C := RX8) (T := TX8) (N := 13) hx hb hts iX8_does_X8 hown hK hP 0 rfl rfl 8 (by decide) (hts (.fieldLink RX8 19 "FrameCardModel" "trial" "[I") (by decide +kernel)) (fun _ h9 => h9) rfl dX8_does_81 ?_
      refine lv_iload_n hx hb dX8_does_84 rfl (lv_at hl 2 rfl) ?_
      refine fc_goi (isC := [1]) (isR := [0]) (wc := [(tr, .inl (tc 0, 357, .inl trow))]) (wr := [(mo, .inr (8, [.int rf, .ref sc, .int ss, .int sp, .int ig, .int lf, .ref rd, .ref nw, .ref tr, .ref di, .int ac, .ref kp, .ref ik]))]) hP hD hS hA rfl rfl (by decide) (by decide) (fc_runS (isC := [1]) (As := [.ref tr, .int (p0 - p0 / 1000000 * 1000000)]) (rest := []) hx hb hml hown hts hK hE hP hD hS hA rfl (by decide) (c_X8_shootIn l D tc tr trow (p0 - p0 / 1000000 * 1000000) _ (RX_K hR).2.2) (cwS 2 hts gX8_does_X8_shootIn rfl rfl rfl hd_X8_shootIn ⟨Nat.le_of_ble_eq_true rfl, Nat.le_of_ble_eq_true rfl⟩) rfl hl.1 rfl (Nat.le_of_ble_eq_true rfl) dX8_does_85 ⟨Nat.le_of_ble_eq_true rfl, Nat.le_of_ble_eq_true rfl⟩) (fun r_25 u_25 H locs hw_25 hP hD hS => ?_)
      obtain ⟨row_25, rfl⟩ : ∃ z, z = u_25 := ⟨_, rfl⟩
      try dsimp only at hw_25
      have hP : va_P D vwCl [(mo, .inr (8, [.int rf, .ref sc, .int ss, .int sp, .int ig, .int lf, .ref rd, .ref nw, .ref tr, .ref di, .int ac, .ref kp, .ref ik])), (tr, .inl (tc 0, 357, .inl row_25))] H := hP
      have hD : va_D A [(mo, .inr (8, [.int rf, .ref sc, .int ss, .int sp, .int ig, .int lf, .ref rd, .ref nw, .ref tr, .ref di, .int ac, .ref kp, .ref ik])), (tr, .inl (tc 0, 357, .inl row_25))] := hD
      refine lv_pop hx hb dX8_does_88 rfl ?_
      refine lv_iconst (v := 1) hx hb dX8_does_89 (by decide) ?_
      exact hret _ _ (1) row_25 _ _ (Or.inr rfl) (by rw [mX8_does]; (try dsimp only); rw [if_neg c_1]; rw [if_pos c_24]; rw [hw_25]; (try dsimp only); (first | done | rfl)) (hP.sub [0, 1] rfl) (hD.sub [0, 1] (by decide) rfl) hS dX8_does_90
    by_cases c_26 : (p0 / 1000000) = 2
    · refine lv_tableIn (tgt := 91) hx hb dX8_does_30 (by rw [c_26]; decide) (by rw [c_26]; decide) (by rw [c_26]; rfl) (by decide) ?_
      refine lv_iload hx hb dX8_does_91 (lv_at hl 0 rfl) ?_
      refine lv_if_eq (tgt := 109) hx hb dX8_does_93 (by decide) (fun c_27 => ?_) (fun c_27 => ?_)
      · exact absurd c_27 (by decide)
      · refine lv_aload_n hx hb dX8_does_96 rfl (lv_at hl 4 rfl) ?_
        refine lv_iload hx hb dX8_does_97 (lv_at hl 1 rfl) ?_
        refine fc_goi (isC := [0, 1]) (isR := []) (wc := [(mo, .inr (8, [.int rf, .ref sc, .int ss, .int sp, .int ig, .int lf, .ref rd, .ref nw, .ref tr, .ref di, .int ac, .ref kp, .ref ik])), (tr, .inl (tc 0, 357, .inl trow))]) (wr := []) hP hD hS hA rfl rfl (by decide) (by decide) (fc_runV (isC := [0, 1]) (As := [.int (p0 - p0 / 100 * 100)]) (rest := []) hx hb hml hown hts hK hE hP hD hS hA rfl (by decide) (c_X8_goes l D tc mo sc rd nw tr di kp ik rf ss sp ig lf ac trow (p0 - p0 / 100 * 100) _ (hR.mono (by omega))) (cwV 1 hts gX8_does_X8_goes rfl rfl rfl hd_X8_goes ⟨Nat.le_of_ble_eq_true rfl, Nat.le_of_ble_eq_true rfl⟩) (ci := 8) rfl rfl rfl rfl hl.1 rfl (Nat.le_of_ble_eq_true rfl) dX8_does_99 ⟨Nat.le_of_ble_eq_true rfl, Nat.le_of_ble_eq_true rfl⟩) (fun r_28 u_28 H locs hw_28 hP hD hS => ?_)
        obtain ⟨trow_28, rfl⟩ : ∃ z, z = u_28 := ⟨_, rfl⟩
        try dsimp only at hw_28
        have hP : va_P D vwCl [(mo, .inr (8, [.int rf, .ref sc, .int ss, .int sp, .int ig, .int lf, .ref rd, .ref nw, .ref tr, .ref di, .int ac, .ref kp, .ref ik])), (tr, .inl (tc 0, 357, .inl trow_28))] H := hP
        have hD : va_D A [(mo, .inr (8, [.int rf, .ref sc, .int ss, .int sp, .int ig, .int lf, .ref rd, .ref nw, .ref tr, .ref di, .int ac, .ref kp, .ref ik])), (tr, .inl (tc 0, 357, .inl trow_28))] := hD
        refine lv_if_eq (tgt := 109) hx hb dX8_does_102 (by decide) (fun c_29 => ?_) (fun c_29 => ?_)
        · refine lv_iconst (v := 0) hx hb dX8_does_109 (by decide) ?_
          exact hret _ _ (0) trow_28 _ _ (Or.inl rfl) (by rw [mX8_does]; (try dsimp only); rw [if_neg c_1]; rw [if_neg c_24]; rw [if_pos c_26]; rw [hw_28]; (try dsimp only); rw [if_pos c_29]; (first | done | rfl)) (hP.sub [0, 1] rfl) (hD.sub [0, 1] (by decide) rfl) hS dX8_does_110
        · refine lv_iconst (v := 1) hx hb dX8_does_105 (by decide) ?_
          refine lv_goto (tgt := 110) hx hb dX8_does_106 (by decide) ?_
          exact hret _ _ (1) trow_28 _ _ (Or.inr rfl) (by rw [mX8_does]; (try dsimp only); rw [if_neg c_1]; rw [if_neg c_24]; rw [if_pos c_26]; rw [hw_28]; (try dsimp only); rw [if_neg c_29]; (first | done | rfl)) (hP.sub [0, 1] rfl) (hD.sub [0, 1] (by decide) rfl) hS dX8_does_110
    by_cases c_30 : (p0 / 1000000) = 3
    · refine lv_tableIn (tgt := 111) hx hb dX8_does_30 (by rw [c_30]; decide) (by rw [c_30]; decide) (by rw [c_30]; rfl) (by decide) ?_
      refine lv_iload hx hb dX8_does_111 (lv_at hl 0 rfl) ?_
      refine lv_if_eq (tgt := 129) hx hb dX8_does_113 (by decide) (fun c_31 => ?_) (fun c_31 => ?_)
      · exact absurd c_31 (by decide)
      · refine lv_aload_n hx hb dX8_does_116 rfl (lv_at hl 4 rfl) ?_
        refine lv_iload hx hb dX8_does_117 (lv_at hl 1 rfl) ?_
        refine fc_goi (isC := [0, 1]) (isR := []) (wc := [(mo, .inr (8, [.int rf, .ref sc, .int ss, .int sp, .int ig, .int lf, .ref rd, .ref nw, .ref tr, .ref di, .int ac, .ref kp, .ref ik])), (tr, .inl (tc 0, 357, .inl trow))]) (wr := []) hP hD hS hA rfl rfl (by decide) (by decide) (fc_runV (isC := [0, 1]) (As := [.int (p0 - p0 / 100 * 100)]) (rest := []) hx hb hml hown hts hK hE hP hD hS hA rfl (by decide) (c_X8_dropsOne l D tc mo sc rd nw tr di kp ik rf ss sp ig lf ac trow (p0 - p0 / 100 * 100) _ (hR.mono (by omega)) hd2.1) (cwV 1 hts gX8_does_X8_dropsOne rfl rfl rfl hd_X8_dropsOne ⟨Nat.le_of_ble_eq_true rfl, Nat.le_of_ble_eq_true rfl⟩) (ci := 8) rfl rfl rfl rfl hl.1 rfl (Nat.le_of_ble_eq_true rfl) dX8_does_119 ⟨Nat.le_of_ble_eq_true rfl, Nat.le_of_ble_eq_true rfl⟩) (fun r_32 u_32 H locs hw_32 hP hD hS => ?_)
        obtain ⟨trow_32, rfl⟩ : ∃ z, z = u_32 := ⟨_, rfl⟩
        try dsimp only at hw_32
        have hP : va_P D vwCl [(mo, .inr (8, [.int rf, .ref sc, .int ss, .int sp, .int ig, .int lf, .ref rd, .ref nw, .ref tr, .ref di, .int ac, .ref kp, .ref ik])), (tr, .inl (tc 0, 357, .inl trow_32))] H := hP
        have hD : va_D A [(mo, .inr (8, [.int rf, .ref sc, .int ss, .int sp, .int ig, .int lf, .ref rd, .ref nw, .ref tr, .ref di, .int ac, .ref kp, .ref ik])), (tr, .inl (tc 0, 357, .inl trow_32))] := hD
        refine lv_if_eq (tgt := 129) hx hb dX8_does_122 (by decide) (fun c_33 => ?_) (fun c_33 => ?_)
        · refine lv_iconst (v := 0) hx hb dX8_does_129 (by decide) ?_
          exact hret _ _ (0) trow_32 _ _ (Or.inl rfl) (by rw [mX8_does]; (try dsimp only); rw [if_neg c_1]; rw [if_neg c_24]; rw [if_neg c_26]; rw [if_pos c_30]; rw [hw_32]; (try dsimp only); rw [if_pos c_33]; (first | done | rfl)) (hP.sub [0, 1] rfl) (hD.sub [0, 1] (by decide) rfl) hS dX8_does_130
        · refine lv_iconst (v := 1) hx hb dX8_does_125 (by decide) ?_
          refine lv_goto (tgt := 130) hx hb dX8_does_126 (by decide) ?_
          exact hret _ _ (1) trow_32 _ _ (Or.inr rfl) (by rw [mX8_does]; (try dsimp only); rw [if_neg c_1]; rw [if_neg c_24]; rw [if_neg c_26]; rw [if_pos c_30]; rw [hw_32]; (try dsimp only); rw [if_neg c_33]; (first | done | rfl)) (hP.sub [0, 1] rfl) (hD.sub [0, 1] (by decide) rfl) hS dX8_does_130
    by_cases c_34 : (p0 / 1000000) = 4
    · refine lv_tableIn (tgt := 131) hx hb dX8_does_30 (by rw [c_34]; decide) (by rw [c_34]; decide) (by rw [c_34]; rfl) (by decide) ?_
      refine lv_iload_n hx hb dX8_does_131 rfl (lv_at hl 2 rfl) ?_
      refine lv_bipush (v := 100) hx hb dX8_does_132 (by decide) ?_
      refine lv_idiv hx hb dX8_does_134 (by decide) ?_
      refine lv_sipush (v := 1000) hx hb dX8_does_135 (by decide) ?_
      refine lv_irem hx hb dX8_does_138 (by decide) ?_
      refine lv_if_ne (tgt := 159) hx hb dX8_does_139 (by decide) (fun c_35 => ?_) (fun c_35 => ?_)
      · refine lv_iconst (v := 0) hx hb dX8_does_159 (by decide) ?_
        exact hret _ _ (0) trow _ _ (Or.inl rfl) (by rw [mX8_does]; (try dsimp only); rw [if_neg c_1]; rw [if_neg c_24]; rw [if_neg c_26]; rw [if_neg c_30]; rw [if_pos c_34]; rw [if_neg c_35]; (first | done | rfl)) (hP.sub [0, 1] rfl) (hD.sub [0, 1] (by decide) rfl) hS dX8_does_160
      · refine lv_aload_n hx hb dX8_does_142 rfl (lv_at hl 4 rfl) ?_
        refine lv_iload_n hx hb dX8_does_143 rfl (lv_at hl 2 rfl) ?_
        refine lv_ldc (v := 100000) hx hb hown (hts (.constant RX8 206 100000) (by decide +kernel)) dX8_does_144 ?_
        refine lv_idiv hx hb dX8_does_146 (by decide) ?_
        refine lv_iload hx hb dX8_does_147 (lv_at hl 1 rfl) ?_
        refine fc_goi (isC := [0, 1]) (isR := []) (wc := [(mo, .inr (8, [.int rf, .ref sc, .int ss, .int sp, .int ig, .int lf, .ref rd, .ref nw, .ref tr, .ref di, .int ac, .ref kp, .ref ik])), (tr, .inl (tc 0, 357, .inl trow))]) (wr := []) hP hD hS hA rfl rfl (by decide) (by decide) (fc_runV (isC := [0, 1]) (As := [.int ((p0 - p0 / 1000000 * 1000000) / 100000), .int (p0 - p0 / 100 * 100)]) (rest := []) hx hb hml hown hts hK hE hP hD hS hA rfl (by decide) (c_X8_sets l D tc mo sc rd nw tr di kp ik rf ss sp ig lf ac trow ((p0 - p0 / 1000000 * 1000000) / 100000) (p0 - p0 / 100 * 100) _ ) (cwV 2 hts gX8_does_X8_sets rfl rfl rfl hd_X8_sets ⟨Nat.le_of_ble_eq_true rfl, Nat.le_of_ble_eq_true rfl⟩) (ci := 8) rfl rfl rfl rfl hl.1 rfl (Nat.le_of_ble_eq_true rfl) dX8_does_149 ⟨Nat.le_of_ble_eq_true rfl, Nat.le_of_ble_eq_true rfl⟩) (fun r_36 u_36 H locs hw_36 hP hD hS => ?_)
        obtain ⟨trow_36, rfl⟩ : ∃ z, z = u_36 := ⟨_, rfl⟩
        try dsimp only at hw_36
        have hP : va_P D vwCl [(mo, .inr (8, [.int rf, .ref sc, .int ss, .int sp, .int ig, .int lf, .ref rd, .ref nw, .ref tr, .ref di, .int ac, .ref kp, .ref ik])), (tr, .inl (tc 0, 357, .inl trow_36))] H := hP
        have hD : va_D A [(mo, .inr (8, [.int rf, .ref sc, .int ss, .int sp, .int ig, .int lf, .ref rd, .ref nw, .ref tr, .ref di, .int ac, .ref kp, .ref ik])), (tr, .inl (tc 0, 357, .inl trow_36))] := hD
        refine lv_if_eq (tgt := 159) hx hb dX8_does_152 (by decide) (fun c_37 => ?_) (fun c_37 => ?_)
        · refine lv_iconst (v := 0) hx hb dX8_does_159 (by decide) ?_
          exact hret _ _ (0) trow_36 _ _ (Or.inl rfl) (by rw [mX8_does]; (try dsimp only); rw [if_neg c_1]; rw [if_neg c_24]; rw [if_neg c_26]; rw [if_neg c_30]; rw [if_pos c_34]; rw [if_pos c_35]; rw [hw_36]; (try dsimp only); rw [if_pos c_37]; (first | done | rfl)) (hP.sub [0, 1] rfl) (hD.sub [0, 1] (by decide) rfl) hS dX8_does_160
        · refine lv_iconst (v := 1) hx hb dX8_does_155 (by decide) ?_
          refine lv_goto (tgt := 160) hx hb dX8_does_156 (by decide) ?_
          exact hret _ _ (1) trow_36 _ _ (Or.inr rfl) (by rw [mX8_does]; (try dsimp only); rw [if_neg c_1]; rw [if_neg c_24]; rw [if_neg c_26]; rw [if_neg c_30]; rw [if_pos c_34]; rw [if_pos c_35]; rw [hw_36]; (try dsimp only); rw [if_neg c_37]; (first | done | rfl)) (hP.sub [0, 1] rfl) (hD.sub [0, 1] (by decide) rfl) hS dX8_does_160
    by_cases c_38 : (p0 / 1000000) = 5
    · refine lv_tableIn (tgt := 161) hx hb dX8_does_30 (by rw [c_38]; decide) (by rw [c_38]; decide) (by rw [c_38]; rfl) (by decide) ?_
      refine lv_iload hx hb dX8_does_161 (lv_at hl 0 rfl) ?_
      refine lv_if_eq (tgt := 182) hx hb dX8_does_163 (by decide) (fun c_39 => ?_) (fun c_39 => ?_)
      · exact absurd c_39 (by decide)
      · refine lv_aload_n hx hb dX8_does_166 rfl (lv_at hl 4 rfl) ?_
        refine va_get (D := D) (ci := 8) (v := .ref tr) (C := RX8) (T := TX8) (N := 13) hx hb hts iX8_does_X8 hown hK hP 0 rfl rfl 8 (by decide) (hts (.fieldLink RX8 19 "FrameCardModel" "trial" "[I") (by decide +kernel)) (fun _ h9 => h9) rfl dX8_does_167 ?_
        refine lv_bipush (v := 16) hx hb dX8_does_170 (by decide) ?_
        refine va_iald (D := D) hx hb hK hP 1 0 rfl rfl (vp_in_iff.mpr (by decide)) dX8_does_172 ?_
        refine lv_iload hx hb dX8_does_173 (lv_at hl 1 rfl) ?_
        refine lv_icmp_lt (tgt := 182) hx hb dX8_does_175 (by decide) (fun c_40 => ?_) (fun c_40 => ?_)
        · refine lv_iconst (v := 0) hx hb dX8_does_182 (by decide) ?_
          exact hret _ _ (0) trow _ _ (Or.inl rfl) (by rw [mX8_does]; (try dsimp only); rw [if_neg c_1]; rw [if_neg c_24]; rw [if_neg c_26]; rw [if_neg c_30]; rw [if_neg c_34]; rw [if_pos c_38]; rw [if_pos c_40]; (first | done | rfl)) (hP.sub [0, 1] rfl) (hD.sub [0, 1] (by decide) rfl) hS dX8_does_183
        · refine lv_iconst (v := 1) hx hb dX8_does_178 (by decide) ?_
          refine lv_goto (tgt := 183) hx hb dX8_does_179 (by decide) ?_
          exact hret _ _ (1) trow _ _ (Or.inr rfl) (by rw [mX8_does]; (try dsimp only); rw [if_neg c_1]; rw [if_neg c_24]; rw [if_neg c_26]; rw [if_neg c_30]; rw [if_neg c_34]; rw [if_pos c_38]; rw [if_neg c_40]; (first | done | rfl)) (hP.sub [0, 1] rfl) (hD.sub [0, 1] (by decide) rfl) hS dX8_does_183
    by_cases c_41 : (p0 / 1000000) = 6
    · refine lv_tableIn (tgt := 184) hx hb dX8_does_30 (by rw [c_41]; decide) (by rw [c_41]; decide) (by rw [c_41]; rfl) (by decide) ?_
      refine lv_iload hx hb dX8_does_184 (lv_at hl 0 rfl) ?_
      refine lv_if_eq (tgt := 205) hx hb dX8_does_186 (by decide) (fun c_42 => ?_) (fun c_42 => ?_)
      · exact absurd c_42 (by decide)
      · refine lv_aload_n hx hb dX8_does_189 rfl (lv_at hl 4 rfl) ?_
        refine va_get (D := D) (ci := 8) (v := .ref tr) (C := RX8) (T := TX8) (N := 13) hx hb hts iX8_does_X8 hown hK hP 0 rfl rfl 8 (by decide) (hts (.fieldLink RX8 19 "FrameCardModel" "trial" "[I") (by decide +kernel)) (fun _ h9 => h9) rfl dX8_does_190 ?_
        refine lv_bipush (v := 6) hx hb dX8_does_193 (by decide) ?_
        refine va_iald (D := D) hx hb hK hP 1 0 rfl rfl (vp_in_iff.mpr (by decide)) dX8_does_195 ?_
        refine lv_iload hx hb dX8_does_196 (lv_at hl 1 rfl) ?_
        refine lv_icmp_gt (tgt := 205) hx hb dX8_does_198 (by decide) (fun c_43 => ?_) (fun c_43 => ?_)
        · refine lv_iconst (v := 0) hx hb dX8_does_205 (by decide) ?_
          exact hret _ _ (0) trow _ _ (Or.inl rfl) (by rw [mX8_does]; (try dsimp only); rw [if_neg c_1]; rw [if_neg c_24]; rw [if_neg c_26]; rw [if_neg c_30]; rw [if_neg c_34]; rw [if_neg c_38]; rw [if_pos c_41]; rw [if_pos c_43]; (first | done | rfl)) (hP.sub [0, 1] rfl) (hD.sub [0, 1] (by decide) rfl) hS dX8_does_206
        · refine lv_iconst (v := 1) hx hb dX8_does_201 (by decide) ?_
          refine lv_goto (tgt := 206) hx hb dX8_does_202 (by decide) ?_
          exact hret _ _ (1) trow _ _ (Or.inr rfl) (by rw [mX8_does]; (try dsimp only); rw [if_neg c_1]; rw [if_neg c_24]; rw [if_neg c_26]; rw [if_neg c_30]; rw [if_neg c_34]; rw [if_neg c_38]; rw [if_pos c_41]; rw [if_neg c_43]; (first | done | rfl)) (hP.sub [0, 1] rfl) (hD.sub [0, 1] (by decide) rfl) hS dX8_does_206
    by_cases c_44 : (p0 / 1000000) = 7
    · refine lv_tableIn (tgt := 207) hx hb dX8_does_30 (by rw [c_44]; decide) (by rw [c_44]; decide) (by rw [c_44]; rfl) (by decide) ?_
      refine lv_iload hx hb dX8_does_207 (lv_at hl 0 rfl) ?_
      refine lv_if_eq (tgt := 228) hx hb dX8_does_209 (by decide) (fun c_45 => ?_) (fun c_45 => ?_)
      · exact absurd c_45 (by decide)
      · refine lv_aload_n hx hb dX8_does_212 rfl (lv_at hl 4 rfl) ?_
        refine va_get (D := D) (ci := 8) (v := .ref tr) (C := RX8) (T := TX8) (N := 13) hx hb hts iX8_does_X8 hown hK hP 0 rfl rfl 8 (by decide) (hts (.fieldLink RX8 19 "FrameCardModel" "trial" "[I") (by decide +kernel)) (fun _ h9 => h9) rfl dX8_does_213 ?_
        refine lv_bipush (v := 10) hx hb dX8_does_216 (by decide) ?_
        refine va_iald (D := D) hx hb hK hP 1 0 rfl rfl (vp_in_iff.mpr (by decide)) dX8_does_218 ?_
        refine lv_iload hx hb dX8_does_219 (lv_at hl 1 rfl) ?_
        refine lv_icmp_gt (tgt := 228) hx hb dX8_does_221 (by decide) (fun c_46 => ?_) (fun c_46 => ?_)
        · refine lv_iconst (v := 0) hx hb dX8_does_228 (by decide) ?_
          exact hret _ _ (0) trow _ _ (Or.inl rfl) (by rw [mX8_does]; (try dsimp only); rw [if_neg c_1]; rw [if_neg c_24]; rw [if_neg c_26]; rw [if_neg c_30]; rw [if_neg c_34]; rw [if_neg c_38]; rw [if_neg c_41]; rw [if_pos c_44]; rw [if_pos c_46]; (first | done | rfl)) (hP.sub [0, 1] rfl) (hD.sub [0, 1] (by decide) rfl) hS dX8_does_229
        · refine lv_iconst (v := 1) hx hb dX8_does_224 (by decide) ?_
          refine lv_goto (tgt := 229) hx hb dX8_does_225 (by decide) ?_
          exact hret _ _ (1) trow _ _ (Or.inr rfl) (by rw [mX8_does]; (try dsimp only); rw [if_neg c_1]; rw [if_neg c_24]; rw [if_neg c_26]; rw [if_neg c_30]; rw [if_neg c_34]; rw [if_neg c_38]; rw [if_neg c_41]; rw [if_pos c_44]; rw [if_neg c_46]; (first | done | rfl)) (hP.sub [0, 1] rfl) (hD.sub [0, 1] (by decide) rfl) hS dX8_does_229
    by_cases c_47 : (p0 / 1000000) = 8
    · refine lv_tableIn (tgt := 230) hx hb dX8_does_30 (by rw [c_47]; decide) (by rw [c_47]; decide) (by rw [c_47]; rfl) (by decide) ?_
      refine lv_iload hx hb dX8_does_230 (lv_at hl 0 rfl) ?_
      refine lv_if_eq (tgt := 252) hx hb dX8_does_232 (by decide) (fun c_48 => ?_) (fun c_48 => ?_)
      · exact absurd c_48 (by decide)
      · refine lv_aload_n hx hb dX8_does_235 rfl (lv_at hl 4 rfl) ?_
        refine va_get (D := D) (ci := 8) (v := .ref tr) (C := RX8) (T := TX8) (N := 13) hx hb hts iX8_does_X8 hown hK hP 0 rfl rfl 8 (by decide) (hts (.fieldLink RX8 19 "FrameCardModel" "trial" "[I") (by decide +kernel)) (fun _ h9 => h9) rfl dX8_does_236 ?_
        refine lv_iconst (v := (-1)) hx hb dX8_does_239 (by decide) ?_
        refine fc_goi (isC := [1]) (isR := [0]) (wc := [(tr, .inl (tc 0, 357, .inl trow))]) (wr := [(mo, .inr (8, [.int rf, .ref sc, .int ss, .int sp, .int ig, .int lf, .ref rd, .ref nw, .ref tr, .ref di, .int ac, .ref kp, .ref ik]))]) hP hD hS hA rfl rfl (by decide) (by decide) (fc_runS (isC := [1]) (As := [.ref tr, .int (-1)]) (rest := []) hx hb hml hown hts hK hE hP hD hS hA rfl (by decide) (c_X8_count l D tc tr trow (-1) _ (RX_K hR).1) (cwS 2 hts gX8_does_X8_count rfl rfl rfl hd_X8_count ⟨Nat.le_of_ble_eq_true rfl, Nat.le_of_ble_eq_true rfl⟩) rfl hl.1 rfl (Nat.le_of_ble_eq_true rfl) dX8_does_240 ⟨Nat.le_of_ble_eq_true rfl, Nat.le_of_ble_eq_true rfl⟩) (fun r_49 u_49 H locs hw_49 hP hD hS => ?_)
        try dsimp only at hw_49
        have hP : va_P D vwCl [(mo, .inr (8, [.int rf, .ref sc, .int ss, .int sp, .int ig, .int lf, .ref rd, .ref nw, .ref tr, .ref di, .int ac, .ref kp, .ref ik])), (tr, .inl (tc 0, 357, .inl trow))] H := hP
        have hD : va_D A [(mo, .inr (8, [.int rf, .ref sc, .int ss, .int sp, .int ig, .int lf, .ref rd, .ref nw, .ref tr, .ref di, .int ac, .ref kp, .ref ik])), (tr, .inl (tc 0, 357, .inl trow))] := hD
        refine lv_iload hx hb dX8_does_243 (lv_at hl 1 rfl) ?_
        refine lv_icmp_lt (tgt := 252) hx hb dX8_does_245 (by decide) (fun c_50 => ?_) (fun c_50 => ?_)
        · refine lv_iconst (v := 0) hx hb dX8_does_252 (by decide) ?_
          exact hret _ _ (0) trow _ _ (Or.inl rfl) (by rw [mX8_does]; (try dsimp only); rw [if_neg c_1]; rw [if_neg c_24]; rw [if_neg c_26]; rw [if_neg c_30]; rw [if_neg c_34]; rw [if_neg c_38]; rw [if_neg c_41]; rw [if_neg c_44]; rw [if_pos c_47]; rw [hw_49]; (try dsimp only); rw [if_pos c_50]; (first | done | rfl)) (hP.sub [0, 1] rfl) (hD.sub [0, 1] (by decide) rfl) hS dX8_does_253
        · refine lv_iconst (v := 1) hx hb dX8_does_248 (by decide) ?_
          refine lv_goto (tgt := 253) hx hb dX8_does_249 (by decide) ?_
          exact hret _ _ (1) trow _ _ (Or.inr rfl) (by rw [mX8_does]; (try dsimp only); rw [if_neg c_1]; rw [if_neg c_24]; rw [if_neg c_26]; rw [if_neg c_30]; rw [if_neg c_34]; rw [if_neg c_38]; rw [if_neg c_41]; rw [if_neg c_44]; rw [if_pos c_47]; rw [hw_49]; (try dsimp only); rw [if_neg c_50]; (first | done | rfl)) (hP.sub [0, 1] rfl) (hD.sub [0, 1] (by decide) rfl) hS dX8_does_253
    by_cases c_51 : (p0 / 1000000) = 9
    · refine lv_tableIn (tgt := 254) hx hb dX8_does_30 (by rw [c_51]; decide) (by rw [c_51]; decide) (by rw [c_51]; rfl) (by decide) ?_
      refine lv_iload_n hx hb dX8_does_254 rfl (lv_at hl 2 rfl) ?_
      refine lv_sipush (v := 10000) hx hb dX8_does_255 (by decide) ?_
      refine lv_icmp_ge (tgt := 273) hx hb dX8_does_258 (by decide) (fun c_52 => ?_) (fun c_52 => ?_)
      · refine lv_iconst (v := 0) hx hb dX8_does_273 (by decide) ?_
        exact hret _ _ (0) trow _ _ (Or.inl rfl) (by rw [mX8_does]; (try dsimp only); rw [if_neg c_1]; rw [if_neg c_24]; rw [if_neg c_26]; rw [if_neg c_30]; rw [if_neg c_34]; rw [if_neg c_38]; rw [if_neg c_41]; rw [if_neg c_44]; rw [if_neg c_47]; rw [if_pos c_51]; rw [if_pos c_52]; (first | done | rfl)) (hP.sub [0, 1] rfl) (hD.sub [0, 1] (by decide) rfl) hS dX8_does_274
      · refine lv_aload_n hx hb dX8_does_261 rfl (lv_at hl 4 rfl) ?_
        refine lv_iload_n hx hb dX8_does_262 rfl (lv_at hl 2 rfl) ?_
        refine fc_goi (isC := [0, 1]) (isR := []) (wc := [(mo, .inr (8, [.int rf, .ref sc, .int ss, .int sp, .int ig, .int lf, .ref rd, .ref nw, .ref tr, .ref di, .int ac, .ref kp, .ref ik])), (tr, .inl (tc 0, 357, .inl trow))]) (wr := []) hP hD hS hA rfl rfl (by decide) (by decide) (fc_runV (isC := [0, 1]) (As := [.int (p0 - p0 / 1000000 * 1000000)]) (rest := []) hx hb hml hown hts hK hE hP hD hS hA rfl (by decide) (c_X8_keeps l D tc mo sc rd nw tr di kp ik rf ss sp ig lf ac trow (p0 - p0 / 1000000 * 1000000) _ (hR.mono (by omega))) (cwV 1 hts gX8_does_X8_keeps rfl rfl rfl hd_X8_keeps ⟨Nat.le_of_ble_eq_true rfl, Nat.le_of_ble_eq_true rfl⟩) (ci := 8) rfl rfl rfl rfl hl.1 rfl (Nat.le_of_ble_eq_true rfl) dX8_does_263 ⟨Nat.le_of_ble_eq_true rfl, Nat.le_of_ble_eq_true rfl⟩) (fun r_53 u_53 H locs hw_53 hP hD hS => ?_)
        try dsimp only at hw_53
        have hP : va_P D vwCl [(mo, .inr (8, [.int rf, .ref sc, .int ss, .int sp, .int ig, .int lf, .ref rd, .ref nw, .ref tr, .ref di, .int ac, .ref kp, .ref ik])), (tr, .inl (tc 0, 357, .inl trow))] H := hP
        have hD : va_D A [(mo, .inr (8, [.int rf, .ref sc, .int ss, .int sp, .int ig, .int lf, .ref rd, .ref nw, .ref tr, .ref di, .int ac, .ref kp, .ref ik])), (tr, .inl (tc 0, 357, .inl trow))] := hD
        refine lv_if_eq (tgt := 273) hx hb dX8_does_266 (by decide) (fun c_54 => ?_) (fun c_54 => ?_)
        · refine lv_iconst (v := 0) hx hb dX8_does_273 (by decide) ?_
          exact hret _ _ (0) trow _ _ (Or.inl rfl) (by rw [mX8_does]; (try dsimp only); rw [if_neg c_1]; rw [if_neg c_24]; rw [if_neg c_26]; rw [if_neg c_30]; rw [if_neg c_34]; rw [if_neg c_38]; rw [if_neg c_41]; rw [if_neg c_44]; rw [if_neg c_47]; rw [if_pos c_51]; rw [if_neg c_52]; rw [hw_53]; (try dsimp only); rw [if_pos c_54]; (first | done | rfl)) (hP.sub [0, 1] rfl) (hD.sub [0, 1] (by decide) rfl) hS dX8_does_274
        · refine lv_iconst (v := 1) hx hb dX8_does_269 (by decide) ?_
          refine lv_goto (tgt := 274) hx hb dX8_does_270 (by decide) ?_
          exact hret _ _ (1) trow _ _ (Or.inr rfl) (by rw [mX8_does]; (try dsimp only); rw [if_neg c_1]; rw [if_neg c_24]; rw [if_neg c_26]; rw [if_neg c_30]; rw [if_neg c_34]; rw [if_neg c_38]; rw [if_neg c_41]; rw [if_neg c_44]; rw [if_neg c_47]; rw [if_pos c_51]; rw [if_neg c_52]; rw [hw_53]; (try dsimp only); rw [if_neg c_54]; (first | done | rfl)) (hP.sub [0, 1] rfl) (hD.sub [0, 1] (by decide) rfl) hS dX8_does_274
    refine lv_tableOut (tgt := 275) hx hb dX8_does_30 (by have qc_24 := c_24; simp only [fc_eq] at qc_24; have lc_24 : (1 : Int32).toInt = 1 := (by decide); have qc_26 := c_26; simp only [fc_eq] at qc_26; have lc_26 : (2 : Int32).toInt = 2 := (by decide); have qc_30 := c_30; simp only [fc_eq] at qc_30; have lc_30 : (3 : Int32).toInt = 3 := (by decide); have qc_34 := c_34; simp only [fc_eq] at qc_34; have lc_34 : (4 : Int32).toInt = 4 := (by decide); have qc_38 := c_38; simp only [fc_eq] at qc_38; have lc_38 : (5 : Int32).toInt = 5 := (by decide); have qc_41 := c_41; simp only [fc_eq] at qc_41; have lc_41 : (6 : Int32).toInt = 6 := (by decide); have qc_44 := c_44; simp only [fc_eq] at qc_44; have lc_44 : (7 : Int32).toInt = 7 := (by decide); have qc_47 := c_47; simp only [fc_eq] at qc_47; have lc_47 : (8 : Int32).toInt = 8 := (by decide); have qc_51 := c_51; simp only [fc_eq] at qc_51; have lc_51 : (9 : Int32).toInt = 9 := (by decide); omega) (by decide) ?_
    refine lv_iconst (v := 0) hx hb dX8_does_275 (by decide) ?_
    exact hret _ _ (0) trow _ _ (Or.inl rfl) (by rw [mX8_does]; (try dsimp only); rw [if_neg c_1]; rw [if_neg c_24]; rw [if_neg c_26]; rw [if_neg c_30]; rw [if_neg c_34]; rw [if_neg c_38]; rw [if_neg c_41]; rw [if_neg c_44]; rw [if_neg c_47]; rw [if_neg c_51]; (first | done | rfl)) (hP.sub [0, 1] rfl) (hD.sub [0, 1] (by decide) rfl) hS dX8_does_276
theorem RX_does {rf ss sp ig lf ac : Int32} {m : Nat} {g r : Int32} {row row' : Nat → Int32} (h : RXn (m + 61) row) (hg : 0 ≤ g.toInt ∧ g.toInt < 10000000) (ht : mX8_does rf ss sp ig lf ac row g = (r, row')) : RXn m row' := by
  have hd1 := fx_remk6 hg
  have hd2 := fx_remk2 hg
  have hm : RXn m row := h.mono (by omega)
  have e0 : ∀ {a : Int32} {z : Nat → Int32}, (a, z) = (r, row') → z = row' := fun q => (Prod.mk.inj q).2
  have shoot : ∀ {a : Int32} {z : Nat → Int32}, (match mX8_shootIn row (g - g / 1000000 * 1000000) with | (r_3, row_3) => ((1 : Int32), row_3)) = (a, z) → RXn m z := by
    intro a z q
    obtain ⟨⟨r1, row1⟩, e1⟩ : ∃ y, y = mX8_shootIn row (g - g / 1000000 * 1000000) := ⟨_, rfl⟩
    rw [← e1] at q
    rw [← (Prod.mk.inj q).2]
    exact RX_shoot (h.mono (by omega)) hd1.1 e1.symm
  have sets : ∀ {w v a : Int32} {z : Nat → Int32}, (match mX8_sets rf ss sp ig lf ac row w v with | (r_10, row_10) => if r_10 = 0 then ((0 : Int32), row_10) else (1, row_10)) = (a, z) → RXn m z := by
    intro w v a z q
    obtain ⟨⟨r1, row1⟩, e1⟩ : ∃ y, y = mX8_sets rf ss sp ig lf ac row w v := ⟨_, rfl⟩
    rw [← e1] at q
    have q1 : row1 = z := by
      dsimp only at q
      by_cases zz : r1 = 0
      · rw [if_pos zz] at q; exact (Prod.mk.inj q).2
      · rw [if_neg zz] at q; exact (Prod.mk.inj q).2
    subst q1
    unfold mX8_sets at e1
    dsimp only at e1
    by_cases hne : mX8_isSetting w v = 0
    · rw [if_pos hne] at e1; rw [(Prod.mk.inj e1).2]; exact hm
    · rw [if_neg hne] at e1
      rw [(Prod.mk.inj e1).2]
      have hs := (fx_isSet8v (w := w) (v := v) rfl).resolve_left hne
      have l0 : (0 : Int32).toNatClampNeg = 0 := by decide
      have l1 : (1 : Int32).toNatClampNeg = 1 := by decide
      have l2 : (2 : Int32).toNatClampNeg = 2 := by decide
      rcases hs with ⟨e, q2⟩ | ⟨e, q2⟩ | ⟨e, q2⟩
      · rw [e, l0]; exact RX_set hm (by decide) (fun _ => by omega)
      · rw [e, l1]; exact RX_set hm (by decide) (fun z => absurd z (by decide))
      · rw [e, l2]; exact RX_set hm (by decide) (fun z => absurd z (by decide))
  unfold mX8_does at ht
  dsimp only at ht
  by_cases h100 : (100 : Int32) ≤ (g - g / 1000000 * 1000000)
  · rw [if_pos h100] at ht
    by_cases w1 : g / 1000000 = 1
    · rw [if_pos w1] at ht
      exact shoot ht
    rw [if_neg w1] at ht
    by_cases w2 : g / 1000000 = 2
    · rw [if_pos w2] at ht
      rw [← e0 ht]; exact hm
    rw [if_neg w2] at ht
    by_cases w3 : g / 1000000 = 3
    · rw [if_pos w3] at ht
      rw [← e0 ht]; exact hm
    rw [if_neg w3] at ht
    by_cases w4 : g / 1000000 = 4
    · rw [if_pos w4] at ht
      by_cases z4 : (((g - g / 1000000 * 1000000) / 100) - ((g - g / 1000000 * 1000000) / 100) / 1000 * 1000) = 0
      · rw [if_pos z4] at ht; exact sets ht
      · rw [if_neg z4] at ht; rw [← e0 ht]; exact hm
    rw [if_neg w4] at ht
    by_cases w5 : g / 1000000 = 5
    · rw [if_pos w5] at ht
      rw [← e0 ht]; exact hm
    rw [if_neg w5] at ht
    by_cases w6 : g / 1000000 = 6
    · rw [if_pos w6] at ht
      rw [← e0 ht]; exact hm
    rw [if_neg w6] at ht
    by_cases w7 : g / 1000000 = 7
    · rw [if_pos w7] at ht
      rw [← e0 ht]; exact hm
    rw [if_neg w7] at ht
    by_cases w8 : g / 1000000 = 8
    · rw [if_pos w8] at ht
      rw [← e0 ht]; exact hm
    rw [if_neg w8] at ht
    by_cases w9 : g / 1000000 = 9
    · rw [if_pos w9] at ht
      by_cases z9 : (10000 : Int32) ≤ (g - g / 1000000 * 1000000)
      · rw [if_pos z9] at ht; rw [← e0 ht]; exact hm
      rw [if_neg z9] at ht
      by_cases z8 : mX8_keeps rf ss sp ig lf ac row (g - g / 1000000 * 1000000) = 0
      · rw [if_pos z8] at ht; rw [← e0 ht]; exact hm
      · rw [if_neg z8] at ht; rw [← e0 ht]; exact hm
    rw [if_neg w9] at ht
    rw [← e0 ht]; exact hm
  · rw [if_neg h100] at ht
    by_cases w1 : g / 1000000 = 1
    · rw [if_pos w1] at ht
      exact shoot ht
    rw [if_neg w1] at ht
    by_cases w2 : g / 1000000 = 2
    · rw [if_pos w2] at ht
      obtain ⟨⟨r1, row1⟩, e1⟩ : ∃ y, y = mX8_goes rf ss sp ig lf ac row (g - g / 100 * 100) := ⟨_, rfl⟩
      rw [← e1] at ht
      have q1 : row1 = row' := by
        dsimp only at ht
        by_cases zz : r1 = 0
        · rw [if_pos zz] at ht; exact (Prod.mk.inj ht).2
        · rw [if_neg zz] at ht; exact (Prod.mk.inj ht).2
      subst q1
      unfold mX8_goes at e1
      dsimp only at e1
      by_cases hne : mX8_isTicks (g - g / 100 * 100) = 0
      · rw [if_pos hne] at e1; rw [(Prod.mk.inj e1).2]; exact hm
      · rw [if_neg hne] at e1
        have hs := (fx_isTicks8 (n := g - g / 100 * 100) rfl).resolve_left hne
        rw [(Prod.mk.inj e1).2]
        exact RX_ticks (h.mono (by omega)) hs.2 rfl
    rw [if_neg w2] at ht
    by_cases w3 : g / 1000000 = 3
    · rw [if_pos w3] at ht
      obtain ⟨⟨r1, row1⟩, e1⟩ : ∃ y, y = mX8_dropsOne rf ss sp ig lf ac row (g - g / 100 * 100) := ⟨_, rfl⟩
      rw [← e1] at ht
      have q1 : row1 = row' := by
        dsimp only at ht
        by_cases zz : r1 = 0
        · rw [if_pos zz] at ht; exact (Prod.mk.inj ht).2
        · rw [if_neg zz] at ht; exact (Prod.mk.inj ht).2
      subst q1
      unfold mX8_dropsOne at e1
      by_cases hlt : (g - g / 100 * 100) < row (16 : Int32).toNatClampNeg
      · rw [if_pos hlt] at e1
        rw [(Prod.mk.inj e1).2]
        rw [fc_lt] at hlt
        exact RX_dropi hm hd2.1 hlt rfl
      · rw [if_neg hlt] at e1; rw [(Prod.mk.inj e1).2]; exact hm
    rw [if_neg w3] at ht
    by_cases w4 : g / 1000000 = 4
    · rw [if_pos w4] at ht
      by_cases z4 : (((g - g / 1000000 * 1000000) / 100) - ((g - g / 1000000 * 1000000) / 100) / 1000 * 1000) = 0
      · rw [if_pos z4] at ht; exact sets ht
      · rw [if_neg z4] at ht; rw [← e0 ht]; exact hm
    rw [if_neg w4] at ht
    by_cases w5 : g / 1000000 = 5
    · rw [if_pos w5] at ht
      by_cases zc : row (16 : Int32).toNatClampNeg < (g - g / 100 * 100)
      · rw [if_pos zc] at ht; rw [← e0 ht]; exact hm
      · rw [if_neg zc] at ht; rw [← e0 ht]; exact hm
    rw [if_neg w5] at ht
    by_cases w6 : g / 1000000 = 6
    · rw [if_pos w6] at ht
      by_cases zc : (g - g / 100 * 100) < row (6 : Int32).toNatClampNeg
      · rw [if_pos zc] at ht; rw [← e0 ht]; exact hm
      · rw [if_neg zc] at ht; rw [← e0 ht]; exact hm
    rw [if_neg w6] at ht
    by_cases w7 : g / 1000000 = 7
    · rw [if_pos w7] at ht
      by_cases zc : (g - g / 100 * 100) < row (10 : Int32).toNatClampNeg
      · rw [if_pos zc] at ht; rw [← e0 ht]; exact hm
      · rw [if_neg zc] at ht; rw [← e0 ht]; exact hm
    rw [if_neg w7] at ht
    by_cases w8 : g / 1000000 = 8
    · rw [if_pos w8] at ht
      by_cases zc : mX8_count row (-1) < (g - g / 100 * 100)
      · rw [if_pos zc] at ht; rw [← e0 ht]; exact hm
      · rw [if_neg zc] at ht; rw [← e0 ht]; exact hm
    rw [if_neg w8] at ht
    by_cases w9 : g / 1000000 = 9
    · rw [if_pos w9] at ht
      by_cases z9 : (10000 : Int32) ≤ (g - g / 1000000 * 1000000)
      · rw [if_pos z9] at ht; rw [← e0 ht]; exact hm
      rw [if_neg z9] at ht
      by_cases z8 : mX8_keeps rf ss sp ig lf ac row (g - g / 1000000 * 1000000) = 0
      · rw [if_pos z8] at ht; rw [← e0 ht]; exact hm
      · rw [if_neg z8] at ht; rw [← e0 ht]; exact hm
    rw [if_neg w9] at ht
    rw [← e0 ht]; exact hm
