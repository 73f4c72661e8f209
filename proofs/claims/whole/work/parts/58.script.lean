/-! The reference: scripts, slots -/
theorem fx_nle {a b : Int32} (h : ¬ a ≤ b) : b.toInt < a.toInt := by
  rw [fc_le] at h; omega
theorem fx_remk6 {g : Int32} (h : 0 ≤ g.toInt ∧ g.toInt < 10000000) : 0 ≤ (g - g / 1000000 * 1000000).toInt ∧ (g - g / 1000000 * 1000000).toInt < 1000000 := by
  rw [fc_remk (k := 1000000) (n := 1000000) (by decide) (by decide) (by decide), Int.tmod_eq_emod_of_nonneg h.1]
  omega
theorem fx_remk2 {g : Int32} (h : 0 ≤ g.toInt ∧ g.toInt < 10000000) : 0 ≤ (g - g / 100 * 100).toInt ∧ (g - g / 100 * 100).toInt < 100 := by
  rw [fc_remk (k := 100) (n := 100) (by decide) (by decide) (by decide), Int.tmod_eq_emod_of_nonneg h.1]
  omega
theorem fx_ten20 {p : Int32} (h : 1 ≤ p.toInt ∧ p.toInt ≤ 2) : (7 * p).toInt ≤ 20 := by
  rw [fc_kmul (k := 7) (n := 7) (by decide) (by omega) (by omega)]
  omega
theorem fx_p1x {p x : Int32} (h : 1 ≤ p.toInt ∧ p.toInt ≤ 2) (hx : 0 ≤ x.toInt ∧ x.toInt < p.toInt) : (p - 1 - x) = 0 ∨ (p - 1 - x) = 1 := by
  have a1 := fc_subk (x := p) (k := 1) (n := 1) (by decide) (by omega) (by omega)
  have a2 := fc_sub (x := p - 1) (y := x) (by omega) (by omega)
  have l0 : (0 : Int32).toInt = 0 := by decide
  have l1 : (1 : Int32).toInt = 1 := by decide
  rw [fc_eq, fc_eq]
  omega
theorem fx_ten20b {p x : Int32} (h : 1 ≤ p.toInt ∧ p.toInt ≤ 2) (hx : 0 ≤ x.toInt ∧ x.toInt < p.toInt) : (7 * ((p - 1) - x)).toInt ≤ 20 := by
  rcases fx_p1x h hx with e | e
  all_goals (rw [e]; decide)
theorem fx_ten0 : mX8_tenTo 0 = 1 := by
  unfold mX8_tenTo
  rw [mX8_tenTo_L4_s, mX8_tenTo_S4, if_pos (by decide)]
theorem fx_ten_L {p : Int32} : ∀ (k i n : Nat) (v : Int64), p = nI n → n < 100 → i ≤ n → n < i + k → mX8_tenTo_L4 p k v (nI i) = v * 10 ^ (n - i) := by
  intro k
  induction k with
  | zero => intro i n v h0 h1 h2 h3; omega
  | succ k ih =>
    intro i n v h0 h1 h2 h3
    rw [mX8_tenTo_L4_s, mX8_tenTo_S4, h0]
    by_cases h : i < n
    · rw [if_neg (nI_ge h (by omega)), nI_1, ← h0, ih (i + 1) n _ h0 h1 (by omega) (by omega)]
      obtain ⟨d, e⟩ : ∃ d, n - i = d + 1 := ⟨n - i - 1, by omega⟩
      rw [e, show n - (i + 1) = d by omega, Int64.pow_succ, Int64.mul_assoc, Int64.mul_comm (10 ^ d) 10]
    · obtain rfl : i = n := by omega
      rw [if_pos (nI_le (Nat.le_refl _) (by omega)), Nat.sub_self, Int64.pow_zero, Int64.mul_one]
theorem fx_ten7 : mX8_tenTo 7 = 10000000 := by
  unfold mX8_tenTo
  rw [show (0 : Int32) = nI 0 from rfl, fx_ten_L (p := 7) 21 0 7 1 rfl (by decide) (by decide) (by decide)]
  rfl
theorem fx_ten14 : mX8_tenTo 14 = 100000000000000 := by
  unfold mX8_tenTo
  rw [show (0 : Int32) = nI 0 from rfl, fx_ten_L (p := 14) 21 0 14 1 rfl (by decide) (by decide) (by decide)]
  rfl
theorem fx_tenTo {p x : Int32} {r : Int64} (hr : mX8_tenTo (7 * ((p - 1) - x)) = r) (h : 1 ≤ p.toInt ∧ p.toInt ≤ 2) (hx : 0 ≤ x.toInt ∧ x.toInt < p.toInt) : r = 1 ∨ r = 10000000 := by
  subst hr
  rcases fx_p1x h hx with e | e
  · rw [e]; exact Or.inl fx_ten0
  · rw [e]; exact Or.inr fx_ten7
theorem fx_tenNe {r : Int64} (h : r = 1 ∨ r = 10000000) : ¬ r = 0 := by
  rcases h with h | h
  all_goals (rw [h]; decide)
/-- Int64 arithmetic, as Int32's -/
theorem fl_rng (x : Int64) : -9223372036854775808 ≤ x.toInt ∧ x.toInt < 9223372036854775808 := ⟨Int64.le_toInt x, Int64.toInt_lt x⟩
theorem fl_bmod {z : Int} (h1 : -9223372036854775808 ≤ z) (h2 : z < 9223372036854775808) : z.bmod (2 ^ 64) = z := by
  rw [Int.bmod_def]
  omega
theorem fl_div {x k : Int64} {n : Int} (hk : k.toInt = n) (h0 : 0 ≤ x.toInt) (hn : 1 ≤ n) : (x / k).toInt = x.toInt / n := by
  have h1 := fl_rng x
  rw [Int64.toInt_div, hk, Int.tdiv_eq_ediv_of_nonneg h0]
  have h2 := Int.ediv_le_self n h0
  have h3 := Int.ediv_nonneg h0 (show 0 ≤ n by omega)
  exact fl_bmod (by omega) (by omega)
theorem fl_rem {x k : Int64} {n : Int} (hk : k.toInt = n) (h0 : 0 ≤ x.toInt) (hn : 1 ≤ n) : (x - x / k * k).toInt = x.toInt % n := by
  have h1 := fl_rng x
  have hq := fl_div hk h0 hn
  have h4 := Int.mul_ediv_add_emod x.toInt n
  have h5 := Int.emod_nonneg x.toInt (show n ≠ 0 by omega)
  have h3 := Int.ediv_nonneg h0 (show 0 ≤ n by omega)
  have h6 := Int.mul_nonneg h3 (show 0 ≤ n by omega)
  have hm : n * (x.toInt / n) = x.toInt / n * n := Int.mul_comm _ _
  have e1 : (x / k * k).toInt = x.toInt / n * n := by
    rw [Int64.toInt_mul, hq, hk]
    exact fl_bmod (by omega) (by omega)
  rw [Int64.toInt_sub, e1]
  rw [fl_bmod (by omega) (by omega)]
  omega
theorem fl_i32 {x : Int64} (h : -2147483648 ≤ x.toInt) (h2 : x.toInt < 2147483648) : x.toInt32.toInt = x.toInt := by
  rw [Int64.toInt_toInt32]
  exact fc_bmod h h2
theorem fx_group {p1 r : Int64} (hr : r = 1 ∨ r = 10000000) (h : 0 ≤ p1.toInt) : 0 ≤ ((((p1 / r) - (p1 / r) / 10000000 * 10000000) : Int64).toInt32).toInt ∧ ((((p1 / r) - (p1 / r) / 10000000 * 10000000) : Int64).toInt32).toInt < 10000000 := by
  have h1 : 0 ≤ (p1 / r).toInt := by
    rcases hr with e | e
    · rw [e, fl_div (k := 1) (n := 1) (by decide) h (by decide)]; omega
    · rw [e, fl_div (k := 10000000) (n := 10000000) (by decide) h (by decide)]; omega
  have h2 := fl_rem (x := p1 / r) (k := 10000000) (n := 10000000) (by decide) h1 (by decide)
  rw [fl_i32 (by omega) (by omega), h2]
  omega
theorem fx_ushr33 (y : Int64) : 0 ≤ ((y.toUInt64 >>> ((33 : Int32).toInt64.toUInt64 &&& Int64.toUInt64 63)).toInt64 : Int64).toInt32.toInt := by
  have e : ((33 : Int32).toInt64.toUInt64 &&& Int64.toUInt64 63) = 33 := by decide
  rw [e]
  have h1 : (y.toUInt64 >>> 33).toNat = y.toUInt64.toNat >>> 33 := by
    rw [UInt64.toNat_shiftRight]; rfl
  rw [Nat.shiftRight_eq_div_pow] at h1
  have h2 : y.toUInt64.toNat < 18446744073709551616 := UInt64.toNat_lt _
  generalize y.toUInt64 >>> 33 = z at h1 ⊢
  have h3 : z.toInt64.toInt = z.toNat := by
    show z.toBitVec.toInt = (z.toBitVec.toNat : Int)
    rw [BitVec.toInt_eq_toNat_of_lt]
    have : z.toBitVec.toNat = z.toNat := rfl
    omega
  rw [fl_i32 (by omega) (by omega), h3]
  omega
theorem fx_p1 {r : Int32} (h : 0 ≤ r.toInt) : 0 ≤ ((r / 64) - (r / 64) / 1000000 * 1000000).toInt ∧ ((r / 64) - (r / 64) / 1000000 * 1000000).toInt ≤ 999999 := by
  have a1 := fc_divk (x := r) (k := 64) (n := 64) (by decide) (by decide)
  rw [Int.tdiv_eq_ediv_of_nonneg h] at a1
  rw [fc_remk (k := 1000000) (n := 1000000) (by decide) (by decide) (by decide), Int.tmod_eq_emod_of_nonneg (by omega)]
  omega
theorem fx_p2 {p r : Int32} (hp : 0 ≤ p.toInt ∧ p.toInt ≤ 999999) (h : 0 ≤ r.toInt) : 0 ≤ (((p / 10) * 10) + ((r / 64) - (r / 64) / 10 * 10)).toInt ∧ (((p / 10) * 10) + ((r / 64) - (r / 64) / 10 * 10)).toInt ≤ 999999 := by
  have a1 := fc_divk (x := r) (k := 64) (n := 64) (by decide) (by decide)
  rw [Int.tdiv_eq_ediv_of_nonneg h] at a1
  have a2 := fc_remk (x := r / 64) (k := 10) (n := 10) (by decide) (by decide) (by decide)
  rw [Int.tmod_eq_emod_of_nonneg (by omega)] at a2
  have a3 := fc_divk (x := p) (k := 10) (n := 10) (by decide) (by decide)
  rw [Int.tdiv_eq_ediv_of_nonneg hp.1] at a3
  have a4 := fc_mulk (x := p / 10) (k := 10) (n := 10) (by decide) (by omega) (by omega)
  rw [fc_add (by omega) (by omega)]
  omega
--# X8_does
theorem hd_X8_sets : yX8_sets.cls = RX8 ∧ yX8_sets.cls ≠ "java/lang/invoke/MethodHandle" ∧ yX8_sets.cls ≠ "java/lang/invoke/VarHandle" ∧ (parseMethodDescriptor yX8_sets.desc).map (fun d => d.parameters.length) = some 2 := by decide +kernel
theorem hd_X8_setsn : yX8_sets.cls ≠ "java/lang/invoke/MethodHandle" ∧ yX8_sets.cls ≠ "java/lang/invoke/VarHandle" ∧ (parseMethodDescriptor yX8_sets.desc).map (fun d => d.parameters.length) = some 2 := by decide +kernel
theorem hd_X8_keeps : yX8_keeps.cls = RX8 ∧ yX8_keeps.cls ≠ "java/lang/invoke/MethodHandle" ∧ yX8_keeps.cls ≠ "java/lang/invoke/VarHandle" ∧ (parseMethodDescriptor yX8_keeps.desc).map (fun d => d.parameters.length) = some 1 := by decide +kernel
theorem hd_X8_keepsn : yX8_keeps.cls ≠ "java/lang/invoke/MethodHandle" ∧ yX8_keeps.cls ≠ "java/lang/invoke/VarHandle" ∧ (parseMethodDescriptor yX8_keeps.desc).map (fun d => d.parameters.length) = some 1 := by decide +kernel
theorem hd_X8_goes : yX8_goes.cls = RX8 ∧ yX8_goes.cls ≠ "java/lang/invoke/MethodHandle" ∧ yX8_goes.cls ≠ "java/lang/invoke/VarHandle" ∧ (parseMethodDescriptor yX8_goes.desc).map (fun d => d.parameters.length) = some 1 := by decide +kernel
theorem hd_X8_goesn : yX8_goes.cls ≠ "java/lang/invoke/MethodHandle" ∧ yX8_goes.cls ≠ "java/lang/invoke/VarHandle" ∧ (parseMethodDescriptor yX8_goes.desc).map (fun d => d.parameters.length) = some 1 := by decide +kernel
theorem hd_X8_dropsOne : yX8_dropsOne.cls = RX8 ∧ yX8_dropsOne.cls ≠ "java/lang/invoke/MethodHandle" ∧ yX8_dropsOne.cls ≠ "java/lang/invoke/VarHandle" ∧ (parseMethodDescriptor yX8_dropsOne.desc).map (fun d => d.parameters.length) = some 1 := by decide +kernel
theorem hd_X8_dropsOnen : yX8_dropsOne.cls ≠ "java/lang/invoke/MethodHandle" ∧ yX8_dropsOne.cls ≠ "java/lang/invoke/VarHandle" ∧ (parseMethodDescriptor yX8_dropsOne.desc).map (fun d => d.parameters.length) = some 1 := by decide +kernel
noncomputable def mX8_does (rf : Int32) (ss : Int32) (sp : Int32) (ig : Int32) (lf : Int32) (ac : Int32) (trow : Nat → Int32) (p0 : Int32) : Int32 × (Nat → Int32) :=
  if 100 ≤ (p0 - p0 / 1000000 * 1000000) then
    if (p0 / 1000000) = 1 then
      match mX8_shootIn trow (p0 - p0 / 1000000 * 1000000) with
      | (r_3, row_3) =>
        (1, row_3)
    else
      if (p0 / 1000000) = 2 then
        (0, trow)
      else
        if (p0 / 1000000) = 3 then
          (0, trow)
        else
          if (p0 / 1000000) = 4 then
            if (((p0 - p0 / 1000000 * 1000000) / 100) - ((p0 - p0 / 1000000 * 1000000) / 100) / 1000 * 1000) = 0 then
              match mX8_sets rf ss sp ig lf ac trow ((p0 - p0 / 1000000 * 1000000) / 100000) (p0 - p0 / 100 * 100) with
              | (r_10, trow_10) =>
                if r_10 = 0 then
                  (0, trow_10)
                else
                  (1, trow_10)
            else
              (0, trow)
          else
            if (p0 / 1000000) = 5 then
              (0, trow)
            else
              if (p0 / 1000000) = 6 then
                (0, trow)
              else
                if (p0 / 1000000) = 7 then
                  (0, trow)
                else
                  if (p0 / 1000000) = 8 then
                    (0, trow)
                  else
                    if (p0 / 1000000) = 9 then
                      if 10000 ≤ (p0 - p0 / 1000000 * 1000000) then
                        (0, trow)
                      else
                        let r_22 := mX8_keeps rf ss sp ig lf ac trow (p0 - p0 / 1000000 * 1000000)
                        if r_22 = 0 then
                          (0, trow)
                        else
                          (1, trow)
                    else
                      (0, trow)
  else
    if (p0 / 1000000) = 1 then
      match mX8_shootIn trow (p0 - p0 / 1000000 * 1000000) with
      | (r_25, row_25) =>
        (1, row_25)
    else
      if (p0 / 1000000) = 2 then
        match mX8_goes rf ss sp ig lf ac trow (p0 - p0 / 100 * 100) with
        | (r_28, trow_28) =>
          if r_28 = 0 then
            (0, trow_28)
          else
            (1, trow_28)
      else
        if (p0 / 1000000) = 3 then
          match mX8_dropsOne rf ss sp ig lf ac trow (p0 - p0 / 100 * 100) with
          | (r_32, trow_32) =>
            if r_32 = 0 then
              (0, trow_32)
            else
              (1, trow_32)
        else
          if (p0 / 1000000) = 4 then
            if (((p0 - p0 / 1000000 * 1000000) / 100) - ((p0 - p0 / 1000000 * 1000000) / 100) / 1000 * 1000) = 0 then
              match mX8_sets rf ss sp ig lf ac trow ((p0 - p0 / 1000000 * 1000000) / 100000) (p0 - p0 / 100 * 100) with
              | (r_36, trow_36) =>
                if r_36 = 0 then
                  (0, trow_36)
                else
                  (1, trow_36)
            else
              (0, trow)
          else
            if (p0 / 1000000) = 5 then
              if (trow (16 : Int32).toNatClampNeg) < (p0 - p0 / 100 * 100) then
                (0, trow)
              else
                (1, trow)
            else
              if (p0 / 1000000) = 6 then
                if (p0 - p0 / 100 * 100) < (trow (6 : Int32).toNatClampNeg) then
                  (0, trow)
                else
                  (1, trow)
              else
                if (p0 / 1000000) = 7 then
                  if (p0 - p0 / 100 * 100) < (trow (10 : Int32).toNatClampNeg) then
                    (0, trow)
                  else
                    (1, trow)
                else
                  if (p0 / 1000000) = 8 then
                    let r_49 := mX8_count trow (-1)
                    if r_49 < (p0 - p0 / 100 * 100) then
                      (0, trow)
                    else
                      (1, trow)
                  else
                    if (p0 / 1000000) = 9 then
                      if 10000 ≤ (p0 - p0 / 1000000 * 1000000) then
                        (0, trow)
                      else
                        let r_53 := mX8_keeps rf ss sp ig lf ac trow (p0 - p0 / 1000000 * 1000000)
                        if r_53 = 0 then
                          (0, trow)
                        else
                          (1, trow)
                    else
                      (0, trow)
set_option maxRecDepth 20000 in
theorem iX8_does_X8 : ∀ w ∈ wsX80, w ∈ wsX8_does := by decide +kernel
abbrev rmX8_does : Room := { frames := 6, cells := 0, slots := 0, locals := 135 }
set_option maxHeartbeats 4000000 in
set_option maxRecDepth 100000 in
theorem c_X8_does (l : Launch) (D : va_G) (tc : Nat → ClassId) (mo : Nat) (sc : Nat) (rd : Nat) (nw : Nat) (tr : Nat) (di : Nat) (kp : Nat) (ik : Nat) (rf : Int32) (ss : Int32) (sp : Int32) (ig : Int32) (lf : Int32) (ac : Int32) (trow : Nat → Int32) (p0 : Int32) (sz : Nat) (hR : RXn 60 trow) (hg : 0 ≤ p0.toInt ∧ p0.toInt < 10000000) : Met l yX8_does wsX8_does rmX8_does (va_Pc [.ref mo, .int p0] (fcB D tc [(mo, .inr (8, [.int rf, .ref sc, .int ss, .int sp, .int ig, .int lf, .ref rd, .ref nw, .ref tr, .ref di, .int ac, .ref kp, .ref ik])), (tr, .inl (tc 0, 357, .inl trow))] sz)) (va_Qi (fun (r : Int32) (u : Nat → Int32) => mX8_does rf ss sp ig lf ac trow p0 = (r, u)) (fun u t => fcO D (va_A [(mo, .inr (8, [.int rf, .ref sc, .int ss, .int sp, .int ig, .int lf, .ref rd, .ref nw, .ref tr, .ref di, .int ac, .ref kp, .ref ik])), (tr, .inl (tc 0, 357, .inl trow))] sz) ((fun (u : Nat → Int32) => [(mo, .inr (8, [.int rf, .ref sc, .int ss, .int sp, .int ig, .int lf, .ref rd, .ref nw, .ref tr, .ref di, .int ac, .ref kp, .ref ik])), (tr, .inl (tc 0, 357, .inl u))]) u) t) (va_A [(mo, .inr (8, [.int rf, .ref sc, .int ss, .int sp, .int ig, .int lf, .ref rd, .ref nw, .ref tr, .ref di, .int ac, .ref kp, .ref ik])), (tr, .inl (tc 0, 357, .inl trow))] sz)) 0 0 (va_A [(mo, .inr (8, [.int rf, .ref sc, .int ss, .int sp, .int ig, .int lf, .ref rd, .ref nw, .ref tr, .ref di, .int ac, .ref kp, .ref ik])), (tr, .inl (tc 0, 357, .inl trow))] sz) := by
  refine fc_ofWz (own := RX8) (cc := cX8_does) (maxL := 6) (W1 := (fun (u : Nat → Int32) => [(mo, .inr (8, [.int rf, .ref sc, .int ss, .int sp, .int ig, .int lf, .ref rd, .ref nw, .ref tr, .ref di, .int ac, .ref kp, .ref ik])), (tr, .inl (tc 0, 357, .inl u))])) rfl (by decide) rfl (Nat.le_of_ble_eq_true rfl) ?_
  intro p e s m args below meth c A Q hx hb hml hown hts hK hE hP hD hS hA hin hret ls hl
  have hl : lv_has ls 6 [(0, .ref mo), (1, .int p0)] := hl
  have hd1 := fx_remk6 hg
  have hd2 := fx_remk2 hg
  refine lv_iload_n hx hb dX8_does_0 rfl (lv_at hl 1 rfl) ?_
  refine lv_ldc (v := 1000000) hx hb hown (hts (.constant RX8 199 1000000) (by decide +kernel)) dX8_does_1 ?_
  refine lv_idiv hx hb dX8_does_3 (by decide) ?_
  refine lv_istore_n (lv' := [(2, .int (p0 / 1000000)), (0, .ref mo), (1, .int p0)]) hx hb dX8_does_4 rfl hl (by decide) rfl (fun ls hl => ?_)
  refine lv_iload_n hx hb dX8_does_5 rfl (lv_at hl 2 rfl) ?_
  refine lv_ldc (v := 1000000) hx hb hown (hts (.constant RX8 199 1000000) (by decide +kernel)) dX8_does_6 ?_
  refine lv_irem hx hb dX8_does_8 (by decide) ?_
  refine lv_istore_n (lv' := [(3, .int (p0 - p0 / 1000000 * 1000000)), (2, .int (p0 / 1000000)), (0, .ref mo), (1, .int p0)]) hx hb dX8_does_9 rfl hl (by decide) rfl (fun ls hl => ?_)
  refine lv_iload_n hx hb dX8_does_10 rfl (lv_at hl 3 rfl) ?_
  refine lv_bipush (v := 100) hx hb dX8_does_11 (by decide) ?_
  refine lv_irem hx hb dX8_does_13 (by decide) ?_
  refine lv_istore (lv' := [(4, .int (p0 - p0 / 100 * 100)), (3, .int (p0 - p0 / 1000000 * 1000000)), (2, .int (p0 / 1000000)), (0, .ref mo), (1, .int p0)]) hx hb dX8_does_14 hl (by decide) rfl (fun ls hl => ?_)
  refine lv_iload_n hx hb dX8_does_16 rfl (lv_at hl 1 rfl) ?_
  refine lv_bipush (v := 100) hx hb dX8_does_17 (by decide) ?_
  refine lv_icmp_ge (tgt := 26) hx hb dX8_does_19 (by decide) (fun c_1 => ?_) (fun c_1 => ?_)
  · refine lv_iconst (v := 0) hx hb dX8_does_26 (by decide) ?_
    refine lv_istore (lv' := [(5, .int 0), (4, .int (p0 - p0 / 100 * 100)), (3, .int (p0 - p0 / 1000000 * 1000000)), (2, .int (p0 / 1000000)), (0, .ref mo), (1, .int p0)]) hx hb dX8_does_27 hl (by decide) rfl (fun ls hl => ?_)
    refine lv_iload_n hx hb dX8_does_29 rfl (lv_at hl 3 rfl) ?_
    by_cases c_2 : (p0 / 1000000) = 1
    · refine lv_tableIn (tgt := 80) hx hb dX8_does_30 (by rw [c_2]; decide) (by rw [c_2]; decide) (by rw [c_2]; rfl) (by decide) ?_
      refine lv_aload_n hx hb dX8_does_80 rfl (lv_at hl 4 rfl) ?_
      refine va_get (D := D) (ci := 8) (v := .ref tr) (C := RX8) (T := TX8) (N := 13) hx hb hts iX8_does_X8 hown hK hP 0 rfl rfl 8 (by decide) (hts (.fieldLink RX8 19 "FrameCardModel" "trial" "[I") (by decide +kernel)) (fun _ h9 => h9) rfl dX8_does_81 ?_
      refine lv_iload_n hx hb dX8_does_84 rfl (lv_at hl 2 rfl) ?_
      refine fc_goi (isC := [1]) (isR := [0]) (wc := [(tr, .inl (tc 0, 357, .inl trow))]) (wr := [(mo, .inr (8, [.int rf, .ref sc, .int ss, .int sp, .int ig, .int lf, .ref rd, .ref nw, .ref tr, .ref di, .int ac, .ref kp, .ref ik]))]) hP hD hS hA rfl rfl (by decide) (by decide) (fc_runS (isC := [1]) (As := [.ref tr, .int (p0 - p0 / 1000000 * 1000000)]) (rest := []) hx hb hml hown hts hK hE hP hD hS hA rfl (by decide) (c_X8_shootIn l D tc tr trow (p0 - p0 / 1000000 * 1000000) _ (RX_K hR).2.2) (cwS 2 hts gX8_does_X8_shootIn rfl rfl rfl hd_X8_shootIn ⟨Nat.le_of_ble_eq_true rfl, Nat.le_of_ble_eq_true rfl⟩) rfl hl.1 rfl (Nat.le_of_ble_eq_true rfl) dX8_does_85 ⟨Nat.le_of_ble_eq_true rfl, Nat.le_of_ble_eq_true rfl⟩) (fun r_3 u_3 H locs hw_3 hP hD hS => ?_)
      obtain ⟨row_3, rfl⟩ : ∃ z, z = u_3 := ⟨_, rfl⟩
      try dsimp only at hw_3
      have hP : va_P D vwCl [(mo, .inr (8, [.int rf, .ref sc, .int ss, .int sp, .int ig, .int lf, .ref rd, .ref nw, .ref tr, .ref di, .int ac, .ref kp, .ref ik])), (tr, .inl (tc 0, 357, .inl row_3))] H := hP
      have hD : va_D A [(mo, .inr (8, [.int rf, .ref sc, .int ss, .int sp, .int ig, .int lf, .ref rd, .ref nw, .ref tr, .ref di, .int ac, .ref kp, .ref ik])), (tr, .inl (tc 0, 357, .inl row_3))] := hD
      refine lv_pop hx hb dX8_does_88 rfl ?_
      refine lv_iconst (v := 1) hx hb dX8_does_89 (by decide) ?_
      exact hret _ _ (1) row_3 _ _ (Or.inr rfl) (by rw [mX8_does]; (try dsimp only); rw [if_pos c_1]; rw [if_pos c_2]; rw [hw_3]; (try dsimp only); (first | done | rfl)) (hP.sub [0, 1] rfl) (hD.sub [0, 1] (by decide) rfl) hS dX8_does_90
    by_cases c_4 : (p0 / 1000000) = 2
    · refine lv_tableIn (tgt := 91) hx hb dX8_does_30 (by rw [c_4]; decide) (by rw [c_4]; decide) (by rw [c_4]; rfl) (by decide) ?_
      refine lv_iload hx hb dX8_does_91 (lv_at hl 0 rfl) ?_
      refine lv_if_eq (tgt := 109) hx hb dX8_does_93 (by decide) (fun c_5 => ?_) (fun c_5 => ?_)
      · refine lv_iconst (v := 0) hx hb dX8_does_109 (by decide) ?_
        exact hret _ _ (0) trow _ _ (Or.inl rfl) (by rw [mX8_does]; (try dsimp only); rw [if_pos c_1]; rw [if_neg c_2]; rw [if_pos c_4]; (first | done | rfl)) (hP.sub [0, 1] rfl) (hD.sub [0, 1] (by decide) rfl) hS dX8_does_110
      · exact absurd (by decide) c_5
    by_cases c_6 : (p0 / 1000000) = 3
    · refine lv_tableIn (tgt := 111) hx hb dX8_does_30 (by rw [c_6]; decide) (by rw [c_6]; decide) (by rw [c_6]; rfl) (by decide) ?_
      refine lv_iload hx hb dX8_does_111 (lv_at hl 0 rfl) ?_
      refine lv_if_eq (tgt := 129) hx hb dX8_does_113 (by decide) (fun c_7 => ?_) (fun c_7 => ?_)
      · refine lv_iconst (v := 0) hx hb dX8_does_129 (by decide) ?_
        exact hret _ _ (0) trow _ _ (Or.inl rfl) (by rw [mX8_does]; (try dsimp only); rw [if_pos c_1]; rw [if_neg c_2]; rw [if_neg c_4]; rw [if_pos c_6]; (first | done | rfl)) (hP.sub [0, 1] rfl) (hD.sub [0, 1] (by decide) rfl) hS dX8_does_130
      · exact absurd (by decide) c_7
    by_cases c_8 : (p0 / 1000000) = 4
    · refine lv_tableIn (tgt := 131) hx hb dX8_does_30 (by rw [c_8]; decide) (by rw [c_8]; decide) (by rw [c_8]; rfl) (by decide) ?_
      refine lv_iload_n hx hb dX8_does_131 rfl (lv_at hl 2 rfl) ?_
      refine lv_bipush (v := 100) hx hb dX8_does_132 (by decide) ?_
      refine lv_idiv hx hb dX8_does_134 (by decide) ?_
      refine lv_sipush (v := 1000) hx hb dX8_does_135 (by decide) ?_
      refine lv_irem hx hb dX8_does_138 (by decide) ?_
      refine lv_if_ne (tgt := 159) hx hb dX8_does_139 (by decide) (fun c_9 => ?_) (fun c_9 => ?_)
      · refine lv_iconst (v := 0) hx hb dX8_does_159 (by decide) ?_
        exact hret _ _ (0) trow _ _ (Or.inl rfl) (by rw [mX8_does]; (try dsimp only); rw [if_pos c_1]; rw [if_neg c_2]; rw [if_neg c_4]; rw [if_neg c_6]; rw [if_pos c_8]; rw [if_neg c_9]; (first | done | rfl)) (hP.sub [0, 1] rfl) (hD.sub [0, 1] (by decide) rfl) hS dX8_does_160
      · refine lv_aload_n hx hb dX8_does_142 rfl (lv_at hl 4 rfl) ?_
        refine lv_iload_n hx hb dX8_does_143 rfl (lv_at hl 2 rfl) ?_
        refine lv_ldc (v := 100000) hx hb hown (hts (.constant RX8 206 100000) (by decide +kernel)) dX8_does_144 ?_
        refine lv_idiv hx hb dX8_does_146 (by decide) ?_
        refine lv_iload hx hb dX8_does_147 (lv_at hl 1 rfl) ?_
        refine fc_goi (isC := [0, 1]) (isR := []) (wc := [(mo, .inr (8, [.int rf, .ref sc, .int ss, .int sp, .int ig, .int lf, .ref rd, .ref nw, .ref tr, .ref di, .int ac, .ref kp, .ref ik])), (tr, .inl (tc 0, 357, .inl trow))]) (wr := []) hP hD hS hA rfl rfl (by decide) (by decide) (fc_runV (isC := [0, 1]) (As := [.int ((p0 - p0 / 1000000 * 1000000) / 100000), .int (p0 - p0 / 100 * 100)]) (rest := []) hx hb hml hown hts hK hE hP hD hS hA rfl (by decide) (c_X8_sets l D tc mo sc rd nw tr di kp ik rf ss sp ig lf ac trow ((p0 - p0 / 1000000 * 1000000) / 100000) (p0 - p0 / 100 * 100) _ ) (cwV 2 hts gX8_does_X8_sets rfl rfl rfl hd_X8_sets ⟨Nat.le_of_ble_eq_true rfl, Nat.le_of_ble_eq_true rfl⟩) (ci := 8) rfl rfl rfl rfl hl.1 rfl (Nat.le_of_ble_eq_true rfl) dX8_does_149 ⟨Nat.le_of_ble_eq_true rfl, Nat.le_of_ble_eq_true rfl⟩) (fun r_10 u_10 H locs hw_10 hP hD hS => ?_)
        obtain ⟨trow_10, rfl⟩ : ∃ z, z = u_10 := ⟨_, rfl⟩
        try dsimp only at hw_10
        have hP : va_P D vwCl [(mo, .inr (8, [.int rf, .ref sc, .int ss, .int sp, .int ig, .int lf, .ref rd, .ref nw, .ref tr, .ref di, .int ac, .ref kp, .ref ik])), (tr, .inl (tc 0, 357, .inl trow_10))] H := hP
        have hD : va_D A [(mo, .inr (8, [.int rf, .ref sc, .int ss, .int sp, .int ig, .int lf, .ref rd, .ref nw, .ref tr, .ref di, .int ac, .ref kp, .ref ik])), (tr, .inl (tc 0, 357, .inl trow_10))] := hD
        refine lv_if_eq (tgt := 159) hx hb dX8_does_152 (by decide) (fun c_11 => ?_) (fun c_11 => ?_)
        · refine lv_iconst (v := 0) hx hb dX8_does_159 (by decide) ?_
          exact hret _ _ (0) trow_10 _ _ (Or.inl rfl) (by rw [mX8_does]; (try dsimp only); rw [if_pos c_1]; rw [if_neg c_2]; rw [if_neg c_4]; rw [if_neg c_6]; rw [if_pos c_8]; rw [if_pos c_9]; rw [hw_10]; (try dsimp only); rw [if_pos c_11]; (first | done | rfl)) (hP.sub [0, 1] rfl) (hD.sub [0, 1] (by decide) rfl) hS dX8_does_160
        · refine lv_iconst (v := 1) hx hb dX8_does_155 (by decide) ?_
          refine lv_goto (tgt := 160) hx hb dX8_does_156 (by decide) ?_
          exact hret _ _ (1) trow_10 _ _ (Or.inr rfl) (by rw [mX8_does]; (try dsimp only); rw [if_pos c_1]; rw [if_neg c_2]; rw [if_neg c_4]; rw [if_neg c_6]; rw [if_pos c_8]; rw [if_pos c_9]; rw [hw_10]; (try dsimp only); rw [if_neg c_11]; (first | done | rfl)) (hP.sub [0, 1] rfl) (hD.sub [0, 1] (by decide) rfl) hS dX8_does_160
    by_cases c_12 : (p0 / 1000000) = 5
    · refine lv_tableIn (tgt := 161) hx hb dX8_does_30 (by rw [c_12]; decide) (by rw [c_12]; decide) (by rw [c_12]; rfl) (by decide) ?_
      refine lv_iload hx hb dX8_does_161 (lv_at hl 0 rfl) ?_
      refine lv_if_eq (tgt := 182) hx hb dX8_does_163 (by decide) (fun c_13 => ?_) (fun c_13 => ?_)
      · refine lv_iconst (v := 0) hx hb dX8_does_182 (by decide) ?_
        exact hret _ _ (0) trow _ _ (Or.inl rfl) (by rw [mX8_does]; (try dsimp only); rw [if_pos c_1]; rw [if_neg c_2]; rw [if_neg c_4]; rw [if_neg c_6]; rw [if_neg c_8]; rw [if_pos c_12]; (first | done | rfl)) (hP.sub [0, 1] rfl) (hD.sub [0, 1] (by decide) rfl) hS dX8_does_183
      · exact absurd (by decide) c_13
    by_cases c_14 : (p0 / 1000000) = 6
    · refine lv_tableIn (tgt := 184) hx hb dX8_does_30 (by rw [c_14]; decide) (by rw [c_14]; decide) (by rw [c_14]; rfl) (by decide) ?_
      refine lv_iload hx hb dX8_does_184 (lv_at hl 0 rfl) ?_
      refine lv_if_eq (tgt := 205) hx hb dX8_does_186 (by decide) (fun c_15 => ?_) (fun c_15 => ?_)
      · refine lv_iconst (v := 0) hx hb dX8_does_205 (by decide) ?_
        exact hret _ _ (0) trow _ _ (Or.inl rfl) (by rw [mX8_does]; (try dsimp only); rw [if_pos c_1]; rw [if_neg c_2]; rw [if_neg c_4]; rw [if_neg c_6]; rw [if_neg c_8]; rw [if_neg c_12]; rw [if_pos c_14]; (first | done | rfl)) (hP.sub [0, 1] rfl) (hD.sub [0, 1] (by decide) rfl) hS dX8_does_206
      · exact absurd (by decide) c_15
    by_cases c_16 : (p0 / 1000000) = 7
    · refine lv_tableIn (tgt := 207) hx hb dX8_does_30 (by rw [c_16]; decide) (by rw [c_16]; decide) (by rw [c_16]; rfl) (by decide) ?_
      refine lv_iload hx hb dX8_does_207 (lv_at hl 0 rfl) ?_
      refine lv_if_eq (tgt := 228) hx hb dX8_does_209 (by decide) (fun c_17 => ?_) (fun c_17 => ?_)
      · refine lv_iconst (v := 0) hx hb dX8_does_228 (by decide) ?_
        exact hret _ _ (0) trow _ _ (Or.inl rfl) (by rw [mX8_does]; (try dsimp only); rw [if_pos c_1]; rw [if_neg c_2]; rw [if_neg c_4]; rw [if_neg c_6]; rw [if_neg c_8]; rw [if_neg c_12]; rw [if_neg c_14]; rw [if_pos c_16]; (first | done | rfl)) (hP.sub [0, 1] rfl) (hD.sub [0, 1] (by decide) rfl) hS dX8_does_229
      · exact absurd (by decide) c_17
    by_cases c_18 : (p0 / 1000000) = 8
    · refine lv_tableIn (tgt := 230) hx hb dX8_does_30 (by rw [c_18]; decide) (by rw [c_18]; decide) (by rw [c_18]; rfl) (by decide) ?_
      refine lv_iload hx hb dX8_does_230 (lv_at hl 0 rfl) ?_
      refine lv_if_eq (tgt := 252) hx hb dX8_does_232 (by decide) (fun c_19 => ?_) (fun c_19 => ?_)
      · refine lv_iconst (v := 0) hx hb dX8_does_252 (by decide) ?_
        exact hret _ _ (0) trow _ _ (Or.inl rfl) (by rw [mX8_does]; (try dsimp only); rw [if_pos c_1]; rw [if_neg c_2]; rw [if_neg c_4]; rw [if_neg c_6]; rw [if_neg c_8]; rw [if_neg c_12]; rw [if_neg c_14]; rw [if_neg c_16]; rw [if_pos c_18]; (first | done | rfl)) (hP.sub [0, 1] rfl) (hD.sub [0, 1] (by decide) rfl) hS dX8_does_253
      · exact absurd (by decide) c_19
    by_cases c_20 : (p0 / 1000000) = 9
    · refine lv_tableIn (tgt := 254) hx hb dX8_does_30 (by rw [c_20]; decide) (by rw [c_20]; decide) (by rw [c_20]; rfl) (by decide) ?_
      refine lv_iload_n hx hb dX8_does_254 rfl (lv_at hl 2 rfl) ?_
      refine lv_sipush (v := 10000) hx hb dX8_does_255 (by decide) ?_
      refine lv_icmp_ge (tgt := 273) hx hb dX8_does_258 (by decide) (fun c_21 => ?_) (fun c_21 => ?_)
      · refine lv_iconst (v := 0) hx hb dX8_does_273 (by decide) ?_
        exact hret _ _ (0) trow _ _ (Or.inl rfl) (by rw [mX8_does]; (try dsimp only); rw [if_pos c_1]; rw [if_neg c_2]; rw [if_neg c_4]; rw [if_neg c_6]; rw [if_neg c_8]; rw [if_neg c_12]; rw [if_neg c_14]; rw [if_neg c_16]; rw [if_neg c_18]; rw [if_pos c_20]; rw [if_pos c_21]; (first | done | rfl)) (hP.sub [0, 1] rfl) (hD.sub [0, 1] (by decide) rfl) hS dX8_does_274
      · refine lv_aload_n hx hb dX8_does_261 rfl (lv_at hl 4 rfl) ?_
        refine lv_iload_n hx hb dX8_does_262 rfl (lv_at hl 2 rfl) ?_
        refine fc_goi (isC := [0, 1]) (isR := []) (wc := [(mo, .inr (8, [.int rf, .ref sc, .int ss, .int sp, .int ig, .int lf, .ref rd, .ref nw, .ref tr, .ref di, .int ac, .ref kp, .ref ik])), (tr, .inl (tc 0, 357, .inl trow))]) (wr := []) hP hD hS hA rfl rfl (by decide) (by decide) (fc_runV (isC := [0, 1]) (As := [.int (p0 - p0 / 1000000 * 1000000)]) (rest := []) hx hb hml hown hts hK hE hP hD hS hA rfl (by decide) (c_X8_keeps l D tc mo sc rd nw tr di kp ik rf ss sp ig lf ac trow (p0 - p0 / 1000000 * 1000000) _ (hR.mono (by omega))) (cwV 1 hts gX8_does_X8_keeps rfl rfl rfl hd_X8_keeps ⟨Nat.le_of_ble_eq_true rfl, Nat.le_of_ble_eq_true rfl⟩) (ci := 8) rfl rfl rfl rfl hl.1 rfl (Nat.le_of_ble_eq_true rfl) dX8_does_263 ⟨Nat.le_of_ble_eq_true rfl, Nat.le_of_ble_eq_true rfl⟩) (fun r_22 u_22 H locs hw_22 hP hD hS => ?_)
        try dsimp only at hw_22
        have hP : va_P D vwCl [(mo, .inr (8, [.int rf, .ref sc, .int ss, .int sp, .int ig, .int lf, .ref rd, .ref nw, .ref tr, .ref di, .int ac, .ref kp, .ref ik])), (tr, .inl (tc 0, 357, .inl trow))] H := hP
        have hD : va_D A [(mo, .inr (8, [.int rf, .ref sc, .int ss, .int sp, .int ig, .int lf, .ref rd, .ref nw, .ref tr, .ref di, .int ac, .ref kp, .ref ik])), (tr, .inl (tc 0, 357, .inl trow))] := hD
        refine lv_if_eq (tgt := 273) hx hb dX8_does_266 (by decide) (fun c_23 => ?_) (fun c_23 => ?_)
        · refine lv_iconst (v := 0) hx hb dX8_does_273 (by decide) ?_
          exact hret _ _ (0) trow _ _ (Or.inl rfl) (by rw [mX8_does]; (try dsimp only); rw [if_pos c_1]; rw [if_neg c_2]; rw [if_neg c_4]; rw [if_neg c_6]; rw [if_neg c_8]; rw [if_neg c_12]; rw [if_neg c_14]; rw [if_neg c_16]; rw [if_neg c_18]; rw [if_pos c_20]; rw [if_neg c_21]; rw [hw_22]; (try dsimp only); rw [if_pos c_23]; (first | done | rfl)) (hP.sub [0, 1] rfl) (hD.sub [0, 1] (by decide) rfl) hS dX8_does_274
        · refine lv_iconst (v := 1) hx hb dX8_does_269 (by decide) ?_
          refine lv_goto (tgt := 274) hx hb dX8_does_270 (by decide) ?_
          exact hret _ _ (1) trow _ _ (Or.inr rfl) (by rw [mX8_does]; (try dsimp only); rw [if_pos c_1]; rw [if_neg c_2]; rw [if_neg c_4]; rw [if_neg c_6]; rw [if_neg c_8]; rw [if_neg c_12]; rw [if_neg c_14]; rw [if_neg c_16]; rw [if_neg c_18]; rw [if_pos c_20]; rw [if_neg c_21]; rw [hw_22]; (try dsimp only); rw [if_neg c_23]; (first | done | rfl)) (hP.sub [0, 1] rfl) (hD.sub [0, 1] (by decide) rfl) hS dX8_does_274
    refine lv_tableOut (tgt := 275) hx hb dX8_does_30 (by have qc_2 := c_2; simp only [fc_eq] at qc_2; have lc_2 : (1 : Int32).toInt = 1 := (by decide); have qc_4 := c_4; simp only [fc_eq] at qc_4; have lc_4 : (2 : Int32).toInt = 2 := (by decide); have qc_6 := c_6; simp only [fc_eq] at qc_6; have lc_6 : (3 : Int32).toInt = 3 := (by decide); have qc_8 := c_8; simp only [fc_eq] at qc_8; have lc_8 : (4 : Int32).toInt = 4 := (by decide); have qc_12 := c_12; simp only [fc_eq] at qc_12; have lc_12 : (5 : Int32).toInt = 5 := (by decide); have qc_14 := c_14; simp only [fc_eq] at qc_14; have lc_14 : (6 : Int32).toInt = 6 := (by decide); have qc_16 := c_16; simp only [fc_eq] at qc_16; have lc_16 : (7 : Int32).toInt = 7 := (by decide); have qc_18 := c_18; simp only [fc_eq] at qc_18; have lc_18 : (8 : Int32).toInt = 8 := (by decide); have qc_20 := c_20; simp only [fc_eq] at qc_20; have lc_20 : (9 : Int32).toInt = 9 := (by decide); omega) (by decide) ?_
    refine lv_iconst (v := 0) hx hb dX8_does_275 (by decide) ?_
    exact hret _ _ (0) trow _ _ (Or.inl rfl) (by rw [mX8_does]; (try dsimp only); rw [if_pos c_1]; rw [if_neg c_2]; rw [if_neg c_4]; rw [if_neg c_6]; rw [if_neg c_8]; rw [if_neg c_12]; rw [if_neg c_14]; rw [if_neg c_16]; rw [if_neg c_18]; rw [if_neg c_20]; (first | done | rfl)) (hP.sub [0, 1] rfl) (hD.sub [0, 1] (by decide) rfl) hS dX8_does_276
  · refine lv_iconst (v := 1) hx hb dX8_does_22 (by decide) ?_
    refine lv_goto (tgt := 27) hx hb dX8_does_23 (by decide) ?_
    refine lv_istore (lv' := [(5, .int 1), (4, .int (p0 - p0 / 100 * 100)), (3, .int (p0 - p0 / 1000000 * 1000000)), (2, .int (p0 / 1000000)), (0, .ref mo), (1, .int p0)]) hx hb dX8_does_27 hl (by decide) rfl (fun ls hl => ?_)
    refine lv_iload_n hx hb dX8_does_29 rfl (lv_at hl 3 rfl) ?_
    by_cases c_24 : (p0 / 1000000) = 1
    · refine lv_tableIn (tgt := 80) hx hb dX8_does_30 (by rw [c_24]; decide) (by rw [c_24]; decide) (by rw [c_24]; rfl) (by decide) ?_
      refine lv_aload_n hx hb dX8_does_80 rfl (lv_at hl 4 rfl) ?_
      refine va_get (D := D) (ci := 8) (v := .ref tr) (C := RX8) (T := TX8) (N := 13) hx hb hts iX8_does_X8 hown hK hP 0 rfl rfl 8 (by decide) (hts (.fieldLink RX8 19 "FrameCardModel" "trial" "[I") (by decide +kernel)) (fun _ h9 => h9) rfl dX8_does_81 ?_
      refine lv_iload_n hx hb dX8_does_84 rfl (lv_at hl 2 rfl) ?_
      refine fc_goi (isC := [1]) (isR := [0]) (wc := [(tr, .inl (tc 0, 357, .inl trow))]) (wr := [(mo, .inr (8, [.int rf, .ref sc, .int ss, .int sp, .int ig, .int lf, .ref rd, .ref nw, .ref tr, .ref di, .int ac, .ref kp, .ref ik]))]) hP hD hS hA rfl rfl (by decide) (by decide) (fc_runS (isC := [1]) (As := [.ref tr, .int (p0 - p0 / 1000000 * 1000000)]) (rest := []) hx hb hml hown hts hK hE hP hD hS hA rfl (by decide) (c_X8_shootIn l D tc tr trow (p0 - p0 / 1000000 * 1000000) _ (RX_K hR).2.2) (cwS 2 hts gX8_does_X8_shootIn rfl rfl rfl hd_X8_shootIn ⟨Nat.le_of_ble_eq_true rfl, Nat.le_of_ble_eq_true rfl⟩) rfl hl.1 rfl (Nat.le_of_ble_eq_true rfl) dX8_does_85 ⟨Nat.le_of_ble_eq_true rfl, Nat.le_of_ble_eq_true rfl⟩) (fun r_25 u_25 H locs hw_25 hP hD hS => ?_)
      obtain ⟨row_25, rfl⟩ : ∃ z, z = u_25 := ⟨_, rfl⟩
      try dsimp only at hw_25
      have hP : va_P D vwCl [(mo, .inr (8, [.int rf, .ref sc, .int ss, .int sp, .int ig, .int lf, .ref rd, .ref nw, .ref tr, .ref di, .int ac, .ref kp, .ref ik])), (tr, .inl (tc 0, 357, .inl row_25))] H := hP
      have hD : va_D A [(mo, .inr (8, [.int rf, .ref sc, .int ss, .int sp, .int ig, .int lf, .ref rd, .ref nw, .ref tr, .ref di, .int ac, .ref kp, .ref ik])), (tr, .inl (tc 0, 357, .inl row_25))] := hD
      refine lv_pop hx hb dX8_does_88 rfl ?_
      refine lv_iconst (v := 1) hx hb dX8_does_89 (by decide) ?_
      exact hret _ _ (1) row_25 _ _ (Or.inr rfl) (by rw [mX8_does]; (try dsimp only); rw [if_neg c_1]; rw [if_pos c_24]; rw [hw_25]; (try dsimp only); (first | done | rfl)) (hP.sub [0, 1] rfl) (hD.sub [0, 1] (by decide) rfl) hS dX8_does_90
    by_cases c_26 : (p0 / 1000000) = 2
    · refine lv_tableIn (tgt := 91) hx hb dX8_does_30 (by rw [c_26]; decide) (by rw [c_26]; decide) (by rw [c_26]; rfl) (by decide) ?_
      refine lv_iload hx hb dX8_does_91 (lv_at hl 0 rfl) ?_
      refine lv_if_eq (tgt := 109) hx hb dX8_does_93 (by decide) (fun c_27 => ?_) (fun c_27 => ?_)
      · exact absurd c_27 (by decide)
      · refine lv_aload_n hx hb dX8_does_96 rfl (lv_at hl 4 rfl) ?_
        refine lv_iload hx hb dX8_does_97 (lv_at hl 1 rfl) ?_
        refine fc_goi (isC := [0, 1]) (isR := []) (wc := [(mo, .inr (8, [.int rf, .ref sc, .int ss, .int sp, .int ig, .int lf, .ref rd, .ref nw, .ref tr, .ref di, .int ac, .ref kp, .ref ik])), (tr, .inl (tc 0, 357, .inl trow))]) (wr := []) hP hD hS hA rfl rfl (by decide) (by decide) (fc_runV (isC := [0, 1]) (As := [.int (p0 - p0 / 100 * 100)]) (rest := []) hx hb hml hown hts hK hE hP hD hS hA rfl (by decide) (c_X8_goes l D tc mo sc rd nw tr di kp ik rf ss sp ig lf ac trow (p0 - p0 / 100 * 100) _ (hR.mono (by omega))) (cwV 1 hts gX8_does_X8_goes rfl rfl rfl hd_X8_goes ⟨Nat.le_of_ble_eq_true rfl, Nat.le_of_ble_eq_true rfl⟩) (ci := 8) rfl rfl rfl rfl hl.1 rfl (Nat.le_of_ble_eq_true rfl) dX8_does_99 ⟨Nat.le_of_ble_eq_true rfl, Nat.le_of_ble_eq_true rfl⟩) (fun r_28 u_28 H locs hw_28 hP hD hS => ?_)
        obtain ⟨trow_28, rfl⟩ : ∃ z, z = u_28 := ⟨_, rfl⟩
        try dsimp only at hw_28
        have hP : va_P D vwCl [(mo, .inr (8, [.int rf, .ref sc, .int ss, .int sp, .int ig, .int lf, .ref rd, .ref nw, .ref tr, .ref di, .int ac, .ref kp, .ref ik])), (tr, .inl (tc 0, 357, .inl trow_28))] H := hP
        have hD : va_D A [(mo, .inr (8, [.int rf, .ref sc, .int ss, .int sp, .int ig, .int lf, .ref rd, .ref nw, .ref tr, .ref di, .int ac, .ref kp, .ref ik])), (tr, .inl (tc 0, 357, .inl trow_28))] := hD
        refine lv_if_eq (tgt := 109) hx hb dX8_does_102 (by decide) (fun c_29 => ?_) (fun c_29 => ?_)
        · refine lv_iconst (v := 0) hx hb dX8_does_109 (by decide) ?_
          exact hret _ _ (0) trow_28 _ _ (Or.inl rfl) (by rw [mX8_does]; (try dsimp only); rw [if_neg c_1]; rw [if_neg c_24]; rw [if_pos c_26]; rw [hw_28]; (try dsimp only); rw [if_pos c_29]; (first | done | rfl)) (hP.sub [0, 1] rfl) (hD.sub [0, 1] (by decide) rfl) hS dX8_does_110
        · refine lv_iconst (v := 1) hx hb dX8_does_105 (by decide) ?_
          refine lv_goto (tgt := 110) hx hb dX8_does_106 (by decide) ?_
          exact hret _ _ (1) trow_28 _ _ (Or.inr rfl) (by rw [mX8_does]; (try dsimp only); rw [if_neg c_1]; rw [if_neg c_24]; rw [if_pos c_26]; rw [hw_28]; (try dsimp only); rw [if_neg c_29]; (first | done | rfl)) (hP.sub [0, 1] rfl) (hD.sub [0, 1] (by decide) rfl) hS dX8_does_110
    by_cases c_30 : (p0 / 1000000) = 3
    · refine lv_tableIn (tgt := 111) hx hb dX8_does_30 (by rw [c_30]; decide) (by rw [c_30]; decide) (by rw [c_30]; rfl) (by decide) ?_
      refine lv_iload hx hb dX8_does_111 (lv_at hl 0 rfl) ?_
      refine lv_if_eq (tgt := 129) hx hb dX8_does_113 (by decide) (fun c_31 => ?_) (fun c_31 => ?_)
      · exact absurd c_31 (by decide)
      · refine lv_aload_n hx hb dX8_does_116 rfl (lv_at hl 4 rfl) ?_
        refine lv_iload hx hb dX8_does_117 (lv_at hl 1 rfl) ?_
        refine fc_goi (isC := [0, 1]) (isR := []) (wc := [(mo, .inr (8, [.int rf, .ref sc, .int ss, .int sp, .int ig, .int lf, .ref rd, .ref nw, .ref tr, .ref di, .int ac, .ref kp, .ref ik])), (tr, .inl (tc 0, 357, .inl trow))]) (wr := []) hP hD hS hA rfl rfl (by decide) (by decide) (fc_runV (isC := [0, 1]) (As := [.int (p0 - p0 / 100 * 100)]) (rest := []) hx hb hml hown hts hK hE hP hD hS hA rfl (by decide) (c_X8_dropsOne l D tc mo sc rd nw tr di kp ik rf ss sp ig lf ac trow (p0 - p0 / 100 * 100) _ (hR.mono (by omega)) hd2.1) (cwV 1 hts gX8_does_X8_dropsOne rfl rfl rfl hd_X8_dropsOne ⟨Nat.le_of_ble_eq_true rfl, Nat.le_of_ble_eq_true rfl⟩) (ci := 8) rfl rfl rfl rfl hl.1 rfl (Nat.le_of_ble_eq_true rfl) dX8_does_119 ⟨Nat.le_of_ble_eq_true rfl, Nat.le_of_ble_eq_true rfl⟩) (fun r_32 u_32 H locs hw_32 hP hD hS => ?_)
        obtain ⟨trow_32, rfl⟩ : ∃ z, z = u_32 := ⟨_, rfl⟩
        try dsimp only at hw_32
        have hP : va_P D vwCl [(mo, .inr (8, [.int rf, .ref sc, .int ss, .int sp, .int ig, .int lf, .ref rd, .ref nw, .ref tr, .ref di, .int ac, .ref kp, .ref ik])), (tr, .inl (tc 0, 357, .inl trow_32))] H := hP
        have hD : va_D A [(mo, .inr (8, [.int rf, .ref sc, .int ss, .int sp, .int ig, .int lf, .ref rd, .ref nw, .ref tr, .ref di, .int ac, .ref kp, .ref ik])), (tr, .inl (tc 0, 357, .inl trow_32))] := hD
        refine lv_if_eq (tgt := 129) hx hb dX8_does_122 (by decide) (fun c_33 => ?_) (fun c_33 => ?_)
        · refine lv_iconst (v := 0) hx hb dX8_does_129 (by decide) ?_
          exact hret _ _ (0) trow_32 _ _ (Or.inl rfl) (by rw [mX8_does]; (try dsimp only); rw [if_neg c_1]; rw [if_neg c_24]; rw [if_neg c_26]; rw [if_pos c_30]; rw [hw_32]; (try dsimp only); rw [if_pos c_33]; (first | done | rfl)) (hP.sub [0, 1] rfl) (hD.sub [0, 1] (by decide) rfl) hS dX8_does_130
        · refine lv_iconst (v := 1) hx hb dX8_does_125 (by decide) ?_
          refine lv_goto (tgt := 130) hx hb dX8_does_126 (by decide) ?_
          exact hret _ _ (1) trow_32 _ _ (Or.inr rfl) (by rw [mX8_does]; (try dsimp only); rw [if_neg c_1]; rw [if_neg c_24]; rw [if_neg c_26]; rw [if_pos c_30]; rw [hw_32]; (try dsimp only); rw [if_neg c_33]; (first | done | rfl)) (hP.sub [0, 1] rfl) (hD.sub [0, 1] (by decide) rfl) hS dX8_does_130
    by_cases c_34 : (p0 / 1000000) = 4
    · refine lv_tableIn (tgt := 131) hx hb dX8_does_30 (by rw [c_34]; decide) (by rw [c_34]; decide) (by rw [c_34]; rfl) (by decide) ?_
      refine lv_iload_n hx hb dX8_does_131 rfl (lv_at hl 2 rfl) ?_
      refine lv_bipush (v := 100) hx hb dX8_does_132 (by decide) ?_
      refine lv_idiv hx hb dX8_does_134 (by decide) ?_
      refine lv_sipush (v := 1000) hx hb dX8_does_135 (by decide) ?_
      refine lv_irem hx hb dX8_does_138 (by decide) ?_
      refine lv_if_ne (tgt := 159) hx hb dX8_does_139 (by decide) (fun c_35 => ?_) (fun c_35 => ?_)
      · refine lv_iconst (v := 0) hx hb dX8_does_159 (by decide) ?_
        exact hret _ _ (0) trow _ _ (Or.inl rfl) (by rw [mX8_does]; (try dsimp only); rw [if_neg c_1]; rw [if_neg c_24]; rw [if_neg c_26]; rw [if_neg c_30]; rw [if_pos c_34]; rw [if_neg c_35]; (first | done | rfl)) (hP.sub [0, 1] rfl) (hD.sub [0, 1] (by decide) rfl) hS dX8_does_160
      · refine lv_aload_n hx hb dX8_does_142 rfl (lv_at hl 4 rfl) ?_
        refine lv_iload_n hx hb dX8_does_143 rfl (lv_at hl 2 rfl) ?_
        refine lv_ldc (v := 100000) hx hb hown (hts (.constant RX8 206 100000) (by decide +kernel)) dX8_does_144 ?_
        refine lv_idiv hx hb dX8_does_146 (by decide) ?_
        refine lv_iload hx hb dX8_does_147 (lv_at hl 1 rfl) ?_
        refine fc_goi (isC := [0, 1]) (isR := []) (wc := [(mo, .inr (8, [.int rf, .ref sc, .int ss, .int sp, .int ig, .int lf, .ref rd, .ref nw, .ref tr, .ref di, .int ac, .ref kp, .ref ik])), (tr, .inl (tc 0, 357, .inl trow))]) (wr := []) hP hD hS hA rfl rfl (by decide) (by decide) (fc_runV (isC := [0, 1]) (As := [.int ((p0 - p0 / 1000000 * 1000000) / 100000), .int (p0 - p0 / 100 * 100)]) (rest := []) hx hb hml hown hts hK hE hP hD hS hA rfl (by decide) (c_X8_sets l D tc mo sc rd nw tr di kp ik rf ss sp ig lf ac trow ((p0 - p0 / 1000000 * 1000000) / 100000) (p0 - p0 / 100 * 100) _ ) (cwV 2 hts gX8_does_X8_sets rfl rfl rfl hd_X8_sets ⟨Nat.le_of_ble_eq_true rfl, Nat.le_of_ble_eq_true rfl⟩) (ci := 8) rfl rfl rfl rfl hl.1 rfl (Nat.le_of_ble_eq_true rfl) dX8_does_149 ⟨Nat.le_of_ble_eq_true rfl, Nat.le_of_ble_eq_true rfl⟩) (fun r_36 u_36 H locs hw_36 hP hD hS => ?_)
        obtain ⟨trow_36, rfl⟩ : ∃ z, z = u_36 := ⟨_, rfl⟩
        try dsimp only at hw_36
        have hP : va_P D vwCl [(mo, .inr (8, [.int rf, .ref sc, .int ss, .int sp, .int ig, .int lf, .ref rd, .ref nw, .ref tr, .ref di, .int ac, .ref kp, .ref ik])), (tr, .inl (tc 0, 357, .inl trow_36))] H := hP
        have hD : va_D A [(mo, .inr (8, [.int rf, .ref sc, .int ss, .int sp, .int ig, .int lf, .ref rd, .ref nw, .ref tr, .ref di, .int ac, .ref kp, .ref ik])), (tr, .inl (tc 0, 357, .inl trow_36))] := hD
        refine lv_if_eq (tgt := 159) hx hb dX8_does_152 (by decide) (fun c_37 => ?_) (fun c_37 => ?_)
        · refine lv_iconst (v := 0) hx hb dX8_does_159 (by decide) ?_
          exact hret _ _ (0) trow_36 _ _ (Or.inl rfl) (by rw [mX8_does]; (try dsimp only); rw [if_neg c_1]; rw [if_neg c_24]; rw [if_neg c_26]; rw [if_neg c_30]; rw [if_pos c_34]; rw [if_pos c_35]; rw [hw_36]; (try dsimp only); rw [if_pos c_37]; (first | done | rfl)) (hP.sub [0, 1] rfl) (hD.sub [0, 1] (by decide) rfl) hS dX8_does_160
        · refine lv_iconst (v := 1) hx hb dX8_does_155 (by decide) ?_
          refine lv_goto (tgt := 160) hx hb dX8_does_156 (by decide) ?_
          exact hret _ _ (1) trow_36 _ _ (Or.inr rfl) (by rw [mX8_does]; (try dsimp only); rw [if_neg c_1]; rw [if_neg c_24]; rw [if_neg c_26]; rw [if_neg c_30]; rw [if_pos c_34]; rw [if_pos c_35]; rw [hw_36]; (try dsimp only); rw [if_neg c_37]; (first | done | rfl)) (hP.sub [0, 1] rfl) (hD.sub [0, 1] (by decide) rfl) hS dX8_does_160
    by_cases c_38 : (p0 / 1000000) = 5
    · refine lv_tableIn (tgt := 161) hx hb dX8_does_30 (by rw [c_38]; decide) (by rw [c_38]; decide) (by rw [c_38]; rfl) (by decide) ?_
      refine lv_iload hx hb dX8_does_161 (lv_at hl 0 rfl) ?_
      refine lv_if_eq (tgt := 182) hx hb dX8_does_163 (by decide) (fun c_39 => ?_) (fun c_39 => ?_)
      · exact absurd c_39 (by decide)
      · refine lv_aload_n hx hb dX8_does_166 rfl (lv_at hl 4 rfl) ?_
        refine va_get (D := D) (ci := 8) (v := .ref tr) (C := RX8) (T := TX8) (N := 13) hx hb hts iX8_does_X8 hown hK hP 0 rfl rfl 8 (by decide) (hts (.fieldLink RX8 19 "FrameCardModel" "trial" "[I") (by decide +kernel)) (fun _ h9 => h9) rfl dX8_does_167 ?_
        refine lv_bipush (v := 16) hx hb dX8_does_170 (by decide) ?_
        refine va_iald (D := D) hx hb hK hP 1 0 rfl rfl (vp_in_iff.mpr (by decide)) dX8_does_172 ?_
        refine lv_iload hx hb dX8_does_173 (lv_at hl 1 rfl) ?_
        refine lv_icmp_lt (tgt := 182) hx hb dX8_does_175 (by decide) (fun c_40 => ?_) (fun c_40 => ?_)
        · refine lv_iconst (v := 0) hx hb dX8_does_182 (by decide) ?_
          exact hret _ _ (0) trow _ _ (Or.inl rfl) (by rw [mX8_does]; (try dsimp only); rw [if_neg c_1]; rw [if_neg c_24]; rw [if_neg c_26]; rw [if_neg c_30]; rw [if_neg c_34]; rw [if_pos c_38]; rw [if_pos c_40]; (first | done | rfl)) (hP.sub [0, 1] rfl) (hD.sub [0, 1] (by decide) rfl) hS dX8_does_183
        · refine lv_iconst (v := 1) hx hb dX8_does_178 (by decide) ?_
          refine lv_goto (tgt := 183) hx hb dX8_does_179 (by decide) ?_
          exact hret _ _ (1) trow _ _ (Or.inr rfl) (by rw [mX8_does]; (try dsimp only); rw [if_neg c_1]; rw [if_neg c_24]; rw [if_neg c_26]; rw [if_neg c_30]; rw [if_neg c_34]; rw [if_pos c_38]; rw [if_neg c_40]; (first | done | rfl)) (hP.sub [0, 1] rfl) (hD.sub [0, 1] (by decide) rfl) hS dX8_does_183
    by_cases c_41 : (p0 / 1000000) = 6
    · refine lv_tableIn (tgt := 184) hx hb dX8_does_30 (by rw [c_41]; decide) (by rw [c_41]; decide) (by rw [c_41]; rfl) (by decide) ?_
      refine lv_iload hx hb dX8_does_184 (lv_at hl 0 rfl) ?_
      refine lv_if_eq (tgt := 205) hx hb dX8_does_186 (by decide) (fun c_42 => ?_) (fun c_42 => ?_)
      · exact absurd c_42 (by decide)
      · refine lv_aload_n hx hb dX8_does_189 rfl (lv_at hl 4 rfl) ?_
        refine va_get (D := D) (ci := 8) (v := .ref tr) (C := RX8) (T := TX8) (N := 13) hx hb hts iX8_does_X8 hown hK hP 0 rfl rfl 8 (by decide) (hts (.fieldLink RX8 19 "FrameCardModel" "trial" "[I") (by decide +kernel)) (fun _ h9 => h9) rfl dX8_does_190 ?_
        refine lv_bipush (v := 6) hx hb dX8_does_193 (by decide) ?_
        refine va_iald (D := D) hx hb hK hP 1 0 rfl rfl (vp_in_iff.mpr (by decide)) dX8_does_195 ?_
        refine lv_iload hx hb dX8_does_196 (lv_at hl 1 rfl) ?_
        refine lv_icmp_gt (tgt := 205) hx hb dX8_does_198 (by decide) (fun c_43 => ?_) (fun c_43 => ?_)
        · refine lv_iconst (v := 0) hx hb dX8_does_205 (by decide) ?_
          exact hret _ _ (0) trow _ _ (Or.inl rfl) (by rw [mX8_does]; (try dsimp only); rw [if_neg c_1]; rw [if_neg c_24]; rw [if_neg c_26]; rw [if_neg c_30]; rw [if_neg c_34]; rw [if_neg c_38]; rw [if_pos c_41]; rw [if_pos c_43]; (first | done | rfl)) (hP.sub [0, 1] rfl) (hD.sub [0, 1] (by decide) rfl) hS dX8_does_206
        · refine lv_iconst (v := 1) hx hb dX8_does_201 (by decide) ?_
          refine lv_goto (tgt := 206) hx hb dX8_does_202 (by decide) ?_
          exact hret _ _ (1) trow _ _ (Or.inr rfl) (by rw [mX8_does]; (try dsimp only); rw [if_neg c_1]; rw [if_neg c_24]; rw [if_neg c_26]; rw [if_neg c_30]; rw [if_neg c_34]; rw [if_neg c_38]; rw [if_pos c_41]; rw [if_neg c_43]; (first | done | rfl)) (hP.sub [0, 1] rfl) (hD.sub [0, 1] (by decide) rfl) hS dX8_does_206
    by_cases c_44 : (p0 / 1000000) = 7
    · refine lv_tableIn (tgt := 207) hx hb dX8_does_30 (by rw [c_44]; decide) (by rw [c_44]; decide) (by rw [c_44]; rfl) (by decide) ?_
      refine lv_iload hx hb dX8_does_207 (lv_at hl 0 rfl) ?_
      refine lv_if_eq (tgt := 228) hx hb dX8_does_209 (by decide) (fun c_45 => ?_) (fun c_45 => ?_)
      · exact absurd c_45 (by decide)
      · refine lv_aload_n hx hb dX8_does_212 rfl (lv_at hl 4 rfl) ?_
        refine va_get (D := D) (ci := 8) (v := .ref tr) (C := RX8) (T := TX8) (N := 13) hx hb hts iX8_does_X8 hown hK hP 0 rfl rfl 8 (by decide) (hts (.fieldLink RX8 19 "FrameCardModel" "trial" "[I") (by decide +kernel)) (fun _ h9 => h9) rfl dX8_does_213 ?_
        refine lv_bipush (v := 10) hx hb dX8_does_216 (by decide) ?_
        refine va_iald (D := D) hx hb hK hP 1 0 rfl rfl (vp_in_iff.mpr (by decide)) dX8_does_218 ?_
        refine lv_iload hx hb dX8_does_219 (lv_at hl 1 rfl) ?_
        refine lv_icmp_gt (tgt := 228) hx hb dX8_does_221 (by decide) (fun c_46 => ?_) (fun c_46 => ?_)
        · refine lv_iconst (v := 0) hx hb dX8_does_228 (by decide) ?_
          exact hret _ _ (0) trow _ _ (Or.inl rfl) (by rw [mX8_does]; (try dsimp only); rw [if_neg c_1]; rw [if_neg c_24]; rw [if_neg c_26]; rw [if_neg c_30]; rw [if_neg c_34]; rw [if_neg c_38]; rw [if_neg c_41]; rw [if_pos c_44]; rw [if_pos c_46]; (first | done | rfl)) (hP.sub [0, 1] rfl) (hD.sub [0, 1] (by decide) rfl) hS dX8_does_229
        · refine lv_iconst (v := 1) hx hb dX8_does_224 (by decide) ?_
          refine lv_goto (tgt := 229) hx hb dX8_does_225 (by decide) ?_
          exact hret _ _ (1) trow _ _ (Or.inr rfl) (by rw [mX8_does]; (try dsimp only); rw [if_neg c_1]; rw [if_neg c_24]; rw [if_neg c_26]; rw [if_neg c_30]; rw [if_neg c_34]; rw [if_neg c_38]; rw [if_neg c_41]; rw [if_pos c_44]; rw [if_neg c_46]; (first | done | rfl)) (hP.sub [0, 1] rfl) (hD.sub [0, 1] (by decide) rfl) hS dX8_does_229
    by_cases c_47 : (p0 / 1000000) = 8
    · refine lv_tableIn (tgt := 230) hx hb dX8_does_30 (by rw [c_47]; decide) (by rw [c_47]; decide) (by rw [c_47]; rfl) (by decide) ?_
      refine lv_iload hx hb dX8_does_230 (lv_at hl 0 rfl) ?_
      refine lv_if_eq (tgt := 252) hx hb dX8_does_232 (by decide) (fun c_48 => ?_) (fun c_48 => ?_)
      · exact absurd c_48 (by decide)
      · refine lv_aload_n hx hb dX8_does_235 rfl (lv_at hl 4 rfl) ?_
        refine va_get (D := D) (ci := 8) (v := .ref tr) (C := RX8) (T := TX8) (N := 13) hx hb hts iX8_does_X8 hown hK hP 0 rfl rfl 8 (by decide) (hts (.fieldLink RX8 19 "FrameCardModel" "trial" "[I") (by decide +kernel)) (fun _ h9 => h9) rfl dX8_does_236 ?_
        refine lv_iconst (v := (-1)) hx hb dX8_does_239 (by decide) ?_
        refine fc_goi (isC := [1]) (isR := [0]) (wc := [(tr, .inl (tc 0, 357, .inl trow))]) (wr := [(mo, .inr (8, [.int rf, .ref sc, .int ss, .int sp, .int ig, .int lf, .ref rd, .ref nw, .ref tr, .ref di, .int ac, .ref kp, .ref ik]))]) hP hD hS hA rfl rfl (by decide) (by decide) (fc_runS (isC := [1]) (As := [.ref tr, .int (-1)]) (rest := []) hx hb hml hown hts hK hE hP hD hS hA rfl (by decide) (c_X8_count l D tc tr trow (-1) _ (RX_K hR).1) (cwS 2 hts gX8_does_X8_count rfl rfl rfl hd_X8_count ⟨Nat.le_of_ble_eq_true rfl, Nat.le_of_ble_eq_true rfl⟩) rfl hl.1 rfl (Nat.le_of_ble_eq_true rfl) dX8_does_240 ⟨Nat.le_of_ble_eq_true rfl, Nat.le_of_ble_eq_true rfl⟩) (fun r_49 u_49 H locs hw_49 hP hD hS => ?_)
        try dsimp only at hw_49
        have hP : va_P D vwCl [(mo, .inr (8, [.int rf, .ref sc, .int ss, .int sp, .int ig, .int lf, .ref rd, .ref nw, .ref tr, .ref di, .int ac, .ref kp, .ref ik])), (tr, .inl (tc 0, 357, .inl trow))] H := hP
        have hD : va_D A [(mo, .inr (8, [.int rf, .ref sc, .int ss, .int sp, .int ig, .int lf, .ref rd, .ref nw, .ref tr, .ref di, .int ac, .ref kp, .ref ik])), (tr, .inl (tc 0, 357, .inl trow))] := hD
        refine lv_iload hx hb dX8_does_243 (lv_at hl 1 rfl) ?_
        refine lv_icmp_lt (tgt := 252) hx hb dX8_does_245 (by decide) (fun c_50 => ?_) (fun c_50 => ?_)
        · refine lv_iconst (v := 0) hx hb dX8_does_252 (by decide) ?_
          exact hret _ _ (0) trow _ _ (Or.inl rfl) (by rw [mX8_does]; (try dsimp only); rw [if_neg c_1]; rw [if_neg c_24]; rw [if_neg c_26]; rw [if_neg c_30]; rw [if_neg c_34]; rw [if_neg c_38]; rw [if_neg c_41]; rw [if_neg c_44]; rw [if_pos c_47]; rw [hw_49]; (try dsimp only); rw [if_pos c_50]; (first | done | rfl)) (hP.sub [0, 1] rfl) (hD.sub [0, 1] (by decide) rfl) hS dX8_does_253
        · refine lv_iconst (v := 1) hx hb dX8_does_248 (by decide) ?_
          refine lv_goto (tgt := 253) hx hb dX8_does_249 (by decide) ?_
          exact hret _ _ (1) trow _ _ (Or.inr rfl) (by rw [mX8_does]; (try dsimp only); rw [if_neg c_1]; rw [if_neg c_24]; rw [if_neg c_26]; rw [if_neg c_30]; rw [if_neg c_34]; rw [if_neg c_38]; rw [if_neg c_41]; rw [if_neg c_44]; rw [if_pos c_47]; rw [hw_49]; (try dsimp only); rw [if_neg c_50]; (first | done | rfl)) (hP.sub [0, 1] rfl) (hD.sub [0, 1] (by decide) rfl) hS dX8_does_253
    by_cases c_51 : (p0 / 1000000) = 9
    · refine lv_tableIn (tgt := 254) hx hb dX8_does_30 (by rw [c_51]; decide) (by rw [c_51]; decide) (by rw [c_51]; rfl) (by decide) ?_
      refine lv_iload_n hx hb dX8_does_254 rfl (lv_at hl 2 rfl) ?_
      refine lv_sipush (v := 10000) hx hb dX8_does_255 (by decide) ?_
      refine lv_icmp_ge (tgt := 273) hx hb dX8_does_258 (by decide) (fun c_52 => ?_) (fun c_52 => ?_)
      · refine lv_iconst (v := 0) hx hb dX8_does_273 (by decide) ?_
        exact hret _ _ (0) trow _ _ (Or.inl rfl) (by rw [mX8_does]; (try dsimp only); rw [if_neg c_1]; rw [if_neg c_24]; rw [if_neg c_26]; rw [if_neg c_30]; rw [if_neg c_34]; rw [if_neg c_38]; rw [if_neg c_41]; rw [if_neg c_44]; rw [if_neg c_47]; rw [if_pos c_51]; rw [if_pos c_52]; (first | done | rfl)) (hP.sub [0, 1] rfl) (hD.sub [0, 1] (by decide) rfl) hS dX8_does_274
      · refine lv_aload_n hx hb dX8_does_261 rfl (lv_at hl 4 rfl) ?_
        refine lv_iload_n hx hb dX8_does_262 rfl (lv_at hl 2 rfl) ?_
        refine fc_goi (isC := [0, 1]) (isR := []) (wc := [(mo, .inr (8, [.int rf, .ref sc, .int ss, .int sp, .int ig, .int lf, .ref rd, .ref nw, .ref tr, .ref di, .int ac, .ref kp, .ref ik])), (tr, .inl (tc 0, 357, .inl trow))]) (wr := []) hP hD hS hA rfl rfl (by decide) (by decide) (fc_runV (isC := [0, 1]) (As := [.int (p0 - p0 / 1000000 * 1000000)]) (rest := []) hx hb hml hown hts hK hE hP hD hS hA rfl (by decide) (c_X8_keeps l D tc mo sc rd nw tr di kp ik rf ss sp ig lf ac trow (p0 - p0 / 1000000 * 1000000) _ (hR.mono (by omega))) (cwV 1 hts gX8_does_X8_keeps rfl rfl rfl hd_X8_keeps ⟨Nat.le_of_ble_eq_true rfl, Nat.le_of_ble_eq_true rfl⟩) (ci := 8) rfl rfl rfl rfl hl.1 rfl (Nat.le_of_ble_eq_true rfl) dX8_does_263 ⟨Nat.le_of_ble_eq_true rfl, Nat.le_of_ble_eq_true rfl⟩) (fun r_53 u_53 H locs hw_53 hP hD hS => ?_)
        try dsimp only at hw_53
        have hP : va_P D vwCl [(mo, .inr (8, [.int rf, .ref sc, .int ss, .int sp, .int ig, .int lf, .ref rd, .ref nw, .ref tr, .ref di, .int ac, .ref kp, .ref ik])), (tr, .inl (tc 0, 357, .inl trow))] H := hP
        have hD : va_D A [(mo, .inr (8, [.int rf, .ref sc, .int ss, .int sp, .int ig, .int lf, .ref rd, .ref nw, .ref tr, .ref di, .int ac, .ref kp, .ref ik])), (tr, .inl (tc 0, 357, .inl trow))] := hD
        refine lv_if_eq (tgt := 273) hx hb dX8_does_266 (by decide) (fun c_54 => ?_) (fun c_54 => ?_)
        · refine lv_iconst (v := 0) hx hb dX8_does_273 (by decide) ?_
          exact hret _ _ (0) trow _ _ (Or.inl rfl) (by rw [mX8_does]; (try dsimp only); rw [if_neg c_1]; rw [if_neg c_24]; rw [if_neg c_26]; rw [if_neg c_30]; rw [if_neg c_34]; rw [if_neg c_38]; rw [if_neg c_41]; rw [if_neg c_44]; rw [if_neg c_47]; rw [if_pos c_51]; rw [if_neg c_52]; rw [hw_53]; (try dsimp only); rw [if_pos c_54]; (first | done | rfl)) (hP.sub [0, 1] rfl) (hD.sub [0, 1] (by decide) rfl) hS dX8_does_274
        · refine lv_iconst (v := 1) hx hb dX8_does_269 (by decide) ?_
          refine lv_goto (tgt := 274) hx hb dX8_does_270 (by decide) ?_
          exact hret _ _ (1) trow _ _ (Or.inr rfl) (by rw [mX8_does]; (try dsimp only); rw [if_neg c_1]; rw [if_neg c_24]; rw [if_neg c_26]; rw [if_neg c_30]; rw [if_neg c_34]; rw [if_neg c_38]; rw [if_neg c_41]; rw [if_neg c_44]; rw [if_neg c_47]; rw [if_pos c_51]; rw [if_neg c_52]; rw [hw_53]; (try dsimp only); rw [if_neg c_54]; (first | done | rfl)) (hP.sub [0, 1] rfl) (hD.sub [0, 1] (by decide) rfl) hS dX8_does_274
    refine lv_tableOut (tgt := 275) hx hb dX8_does_30 (by have qc_24 := c_24; simp only [fc_eq] at qc_24; have lc_24 : (1 : Int32).toInt = 1 := (by decide); have qc_26 := c_26; simp only [fc_eq] at qc_26; have lc_26 : (2 : Int32).toInt = 2 := (by decide); have qc_30 := c_30; simp only [fc_eq] at qc_30; have lc_30 : (3 : Int32).toInt = 3 := (by decide); have qc_34 := c_34; simp only [fc_eq] at qc_34; have lc_34 : (4 : Int32).toInt = 4 := (by decide); have qc_38 := c_38; simp only [fc_eq] at qc_38; have lc_38 : (5 : Int32).toInt = 5 := (by decide); have qc_41 := c_41; simp only [fc_eq] at qc_41; have lc_41 : (6 : Int32).toInt = 6 := (by decide); have qc_44 := c_44; simp only [fc_eq] at qc_44; have lc_44 : (7 : Int32).toInt = 7 := (by decide); have qc_47 := c_47; simp only [fc_eq] at qc_47; have lc_47 : (8 : Int32).toInt = 8 := (by decide); have qc_51 := c_51; simp only [fc_eq] at qc_51; have lc_51 : (9 : Int32).toInt = 9 := (by decide); omega) (by decide) ?_
    refine lv_iconst (v := 0) hx hb dX8_does_275 (by decide) ?_
    exact hret _ _ (0) trow _ _ (Or.inl rfl) (by rw [mX8_does]; (try dsimp only); rw [if_neg c_1]; rw [if_neg c_24]; rw [if_neg c_26]; rw [if_neg c_30]; rw [if_neg c_34]; rw [if_neg c_38]; rw [if_neg c_41]; rw [if_neg c_44]; rw [if_neg c_47]; rw [if_neg c_51]; (first | done | rfl)) (hP.sub [0, 1] rfl) (hD.sub [0, 1] (by decide) rfl) hS dX8_does_276
theorem RX_does {rf ss sp ig lf ac : Int32} {m : Nat} {g r : Int32} {row row' : Nat → Int32} (h : RXn (m + 61) row) (hg : 0 ≤ g.toInt ∧ g.toInt < 10000000) (ht : mX8_does rf ss sp ig lf ac row g = (r, row')) : RXn m row' := by
  have hd1 := fx_remk6 hg
  have hd2 := fx_remk2 hg
  have hm : RXn m row := h.mono (by omega)
  have e0 : ∀ {a : Int32} {z : Nat → Int32}, (a, z) = (r, row') → z = row' := fun q => (Prod.mk.inj q).2
  have shoot : ∀ {a : Int32} {z : Nat → Int32}, (match mX8_shootIn row (g - g / 1000000 * 1000000) with | (r_3, row_3) => ((1 : Int32), row_3)) = (a, z) → RXn m z := by
    intro a z q
    obtain ⟨⟨r1, row1⟩, e1⟩ : ∃ y, y = mX8_shootIn row (g - g / 1000000 * 1000000) := ⟨_, rfl⟩
    rw [← e1] at q
    rw [← (Prod.mk.inj q).2]
    exact RX_shoot (h.mono (by omega)) hd1.1 e1.symm
  have sets : ∀ {w v a : Int32} {z : Nat → Int32}, (match mX8_sets rf ss sp ig lf ac row w v with | (r_10, row_10) => if r_10 = 0 then ((0 : Int32), row_10) else (1, row_10)) = (a, z) → RXn m z := by
    intro w v a z q
    obtain ⟨⟨r1, row1⟩, e1⟩ : ∃ y, y = mX8_sets rf ss sp ig lf ac row w v := ⟨_, rfl⟩
    rw [← e1] at q
    have q1 : row1 = z := by
      dsimp only at q
      split at q
      · exact (Prod.mk.inj q).2
      · exact (Prod.mk.inj q).2
    subst q1
    unfold mX8_sets at e1
    dsimp only at e1
    split at e1
    · rw [(Prod.mk.inj e1).2]; exact hm
    · next hne =>
      rw [(Prod.mk.inj e1).2]
      have hs := (fx_isSet8v (w := w) (v := v) rfl).resolve_left hne
      have l0 : (0 : Int32).toNatClampNeg = 0 := by decide
      have l1 : (1 : Int32).toNatClampNeg = 1 := by decide
      have l2 : (2 : Int32).toNatClampNeg = 2 := by decide
      rcases hs with ⟨e, q2⟩ | ⟨e, q2⟩ | ⟨e, q2⟩
      · rw [e, l0]; exact RX_set hm (by decide) (fun _ => by omega)
      · rw [e, l1]; exact RX_set hm (by decide) (fun z => absurd z (by decide))
      · rw [e, l2]; exact RX_set hm (by decide) (fun z => absurd z (by decide))
  unfold mX8_does at ht
  dsimp only at ht
  split at ht
  · split at ht
    · exact shoot ht
    · split at ht
      · rw [← e0 ht]; exact hm
      · split at ht
        · rw [← e0 ht]; exact hm
        · split at ht
          · split at ht
            · exact sets ht
            · rw [← e0 ht]; exact hm
          · repeat' split at ht
            all_goals (rw [← e0 ht]; exact hm)
  · split at ht
    · exact shoot ht
    · split at ht
      · obtain ⟨⟨r1, row1⟩, e1⟩ : ∃ y, y = mX8_goes rf ss sp ig lf ac row (g - g / 100 * 100) := ⟨_, rfl⟩
        rw [← e1] at ht
        have q1 : row1 = row' := by
          dsimp only at ht
          split at ht
          · exact (Prod.mk.inj ht).2
          · exact (Prod.mk.inj ht).2
        subst q1
        unfold mX8_goes at e1
        dsimp only at e1
        split at e1
        · rw [(Prod.mk.inj e1).2]; exact hm
        · next hne =>
          have hs := (fx_isTicks8 (n := g - g / 100 * 100) rfl).resolve_left hne
          rw [(Prod.mk.inj e1).2]
          exact RX_ticks (h.mono (by omega)) hs.2 rfl
      · split at ht
        · obtain ⟨⟨r1, row1⟩, e1⟩ : ∃ y, y = mX8_dropsOne rf ss sp ig lf ac row (g - g / 100 * 100) := ⟨_, rfl⟩
          rw [← e1] at ht
          have q1 : row1 = row' := by
            dsimp only at ht
            split at ht
            · exact (Prod.mk.inj ht).2
            · exact (Prod.mk.inj ht).2
          subst q1
          unfold mX8_dropsOne at e1
          dsimp only at e1
          split at e1
          · next hlt =>
            rw [(Prod.mk.inj e1).2]
            rw [fc_lt] at hlt
            exact RX_dropi hm hd2.1 hlt rfl
          · rw [(Prod.mk.inj e1).2]; exact hm
        · split at ht
          · split at ht
            · exact sets ht
            · rw [← e0 ht]; exact hm
          · repeat' split at ht
            all_goals (rw [← e0 ht]; exact hm)
--# X8_runScript
theorem hd_X8_tenTo : yX8_tenTo.cls = RX8 ∧ yX8_tenTo.cls ≠ "java/lang/invoke/MethodHandle" ∧ yX8_tenTo.cls ≠ "java/lang/invoke/VarHandle" ∧ (parseMethodDescriptor yX8_tenTo.desc).map (fun d => d.parameters.length) = some 1 := by decide +kernel
theorem hd_X8_tenTon : yX8_tenTo.cls ≠ "java/lang/invoke/MethodHandle" ∧ yX8_tenTo.cls ≠ "java/lang/invoke/VarHandle" ∧ (parseMethodDescriptor yX8_tenTo.desc).map (fun d => d.parameters.length) = some 1 := by decide +kernel
theorem hd_X8_does : yX8_does.cls = RX8 ∧ yX8_does.cls ≠ "java/lang/invoke/MethodHandle" ∧ yX8_does.cls ≠ "java/lang/invoke/VarHandle" ∧ (parseMethodDescriptor yX8_does.desc).map (fun d => d.parameters.length) = some 1 := by decide +kernel
theorem hd_X8_doesn : yX8_does.cls ≠ "java/lang/invoke/MethodHandle" ∧ yX8_does.cls ≠ "java/lang/invoke/VarHandle" ∧ (parseMethodDescriptor yX8_does.desc).map (fun d => d.parameters.length) = some 1 := by decide +kernel
noncomputable def mX8_runScript_S63 (ss : Int32) (sp : Int32) (ig : Int32) (lf : Int32) (ac : Int32) (row : Nat → Int32) (p0 : Int32) (p1 : Int64) (r_1 : Int32) (ih_63 : Int32 → (Nat → Int32) → Int32 × Int32 × (Nat → Int32)) (x5h63 : Int32) (trowh63 : Nat → Int32) : Int32 × Int32 × (Nat → Int32) :=
  if p0 ≤ x5h63 then
    ((-1), 0, trowh63)
  else
    let r_15 := mX8_tenTo (7 * ((p0 - 1) - x5h63))
    match mX8_does 0 ss sp ig lf ac trowh63 ((((p1 / r_15) - (p1 / r_15) / 10000000 * 10000000) : Int64).toInt32) with
    | (r_16, trow_16) =>
      if r_16 = 0 then
        (x5h63, 0, trow_16)
      else
        ih_63 (x5h63 + 1) trow_16
noncomputable def mX8_runScript_L63 (ss : Int32) (sp : Int32) (ig : Int32) (lf : Int32) (ac : Int32) (row : Nat → Int32) (p0 : Int32) (p1 : Int64) (r_1 : Int32) (k : Nat) : Int32 → (Nat → Int32) → Int32 × Int32 × (Nat → Int32) := Nat.rec (motive := fun _ => Int32 → (Nat → Int32) → Int32 × Int32 × (Nat → Int32)) (fun x5h63 trowh63 => (0, 0, trowh63)) (fun _ ih => mX8_runScript_S63 ss sp ig lf ac row p0 p1 r_1 ih) k
theorem mX8_runScript_L63_z (ss : Int32) (sp : Int32) (ig : Int32) (lf : Int32) (ac : Int32) (row : Nat → Int32) (p0 : Int32) (p1 : Int64) (r_1 : Int32) (x5h63 : Int32) (trowh63 : Nat → Int32) : mX8_runScript_L63 ss sp ig lf ac row p0 p1 r_1 0 x5h63 trowh63 = (0, 0, trowh63) := rfl
theorem mX8_runScript_L63_s (ss : Int32) (sp : Int32) (ig : Int32) (lf : Int32) (ac : Int32) (row : Nat → Int32) (p0 : Int32) (p1 : Int64) (r_1 : Int32) (k : Nat) (x5h63 : Int32) (trowh63 : Nat → Int32) : mX8_runScript_L63 ss sp ig lf ac row p0 p1 r_1 (k + 1) x5h63 trowh63 = mX8_runScript_S63 ss sp ig lf ac row p0 p1 r_1 (mX8_runScript_L63 ss sp ig lf ac row p0 p1 r_1 k) x5h63 trowh63 := rfl
noncomputable def mX8_runScript (rf : Int32) (ss : Int32) (sp : Int32) (ig : Int32) (lf : Int32) (ac : Int32) (row : Nat → Int32) (trow : Nat → Int32) (p0 : Int32) (p1 : Int64) : Int32 × Int32 × (Nat → Int32) :=
  let r_1 := mX8_in p0.toInt64 1 2
  if r_1 = 0 then
    (0, 1, trow)
  else
    let r_6 := mX8_tenTo (7 * p0)
    let r_7 := mX8_in p1 0 (r_6 - 1)
    if r_7 = 0 then
      (0, 1, trow)
    else
      let trow_13 := mX8_tryIt 0 ss sp ig lf ac row trow
      mX8_runScript_L63 ss sp ig lf ac row p0 p1 r_1 3 0 trow_13
abbrev rmX8_runScript : Room := { frames := 7, cells := 0, slots := 0, locals := 160 }
set_option maxHeartbeats 4000000 in
set_option maxRecDepth 100000 in
theorem c_X8_runScript (l : Launch) (D : va_G) (tc : Nat → ClassId) (mo : Nat) (sc : Nat) (rd : Nat) (nw : Nat) (tr : Nat) (di : Nat) (kp : Nat) (ik : Nat) (rf : Int32) (ss : Int32) (sp : Int32) (ig : Int32) (lf : Int32) (ac : Int32) (row : Nat → Int32) (trow : Nat → Int32) (p0 : Int32) (p1 : Int64) (sz : Nat) (hR : RXn 200 row) : Met l yX8_runScript wsX8_runScript rmX8_runScript (va_Pc [.ref mo, .int p0, .long p1] (fcB D tc [(mo, .inr (8, [.int rf, .ref sc, .int ss, .int sp, .int ig, .int lf, .ref rd, .ref nw, .ref tr, .ref di, .int ac, .ref kp, .ref ik])), (nw, .inl (tc 0, 357, .inl row)), (tr, .inl (tc 0, 357, .inl trow))] sz)) (va_Qi (fun (r : Int32) (u : Int32 × (Nat → Int32)) => mX8_runScript rf ss sp ig lf ac row trow p0 p1 = (r, u)) (fun u t => fcO D (va_A [(mo, .inr (8, [.int rf, .ref sc, .int ss, .int sp, .int ig, .int lf, .ref rd, .ref nw, .ref tr, .ref di, .int ac, .ref kp, .ref ik])), (nw, .inl (tc 0, 357, .inl row)), (tr, .inl (tc 0, 357, .inl trow))] sz) ((fun (u : Int32 × (Nat → Int32)) => [(mo, .inr (8, [.int (u.1), .ref sc, .int ss, .int sp, .int ig, .int lf, .ref rd, .ref nw, .ref tr, .ref di, .int ac, .ref kp, .ref ik])), (nw, .inl (tc 0, 357, .inl row)), (tr, .inl (tc 0, 357, .inl (u.2)))]) u) t) (va_A [(mo, .inr (8, [.int rf, .ref sc, .int ss, .int sp, .int ig, .int lf, .ref rd, .ref nw, .ref tr, .ref di, .int ac, .ref kp, .ref ik])), (nw, .inl (tc 0, 357, .inl row)), (tr, .inl (tc 0, 357, .inl trow))] sz)) 0 0 (va_A [(mo, .inr (8, [.int rf, .ref sc, .int ss, .int sp, .int ig, .int lf, .ref rd, .ref nw, .ref tr, .ref di, .int ac, .ref kp, .ref ik])), (nw, .inl (tc 0, 357, .inl row)), (tr, .inl (tc 0, 357, .inl trow))] sz) := by
  refine fc_ofWi (own := RX8) (cc := cX8_runScript) (maxL := 6) (W1 := (fun (u : Int32 × (Nat → Int32)) => [(mo, .inr (8, [.int (u.1), .ref sc, .int ss, .int sp, .int ig, .int lf, .ref rd, .ref nw, .ref tr, .ref di, .int ac, .ref kp, .ref ik])), (nw, .inl (tc 0, 357, .inl row)), (tr, .inl (tc 0, 357, .inl (u.2)))])) rfl (by decide) rfl (Nat.le_of_ble_eq_true rfl) ?_
  intro p e s m args below meth c A Q hx hb hml hown hts hK hE hP hD hS hA hin hret ls hl
  have hl : lv_has ls 6 [(0, .ref mo), (1, .int p0), (2, .long p1)] := hl
  refine lv_iload_n hx hb dX8_runScript_0 rfl (lv_at hl 1 rfl) ?_
  refine lv_i2l hx hb dX8_runScript_1 rfl ?_
  refine lv_lconst (v := 1) hx hb dX8_runScript_2 (by decide) ?_
  refine lv_ldc2 (v := 2) hx hb hown (hts (.constantLong RX8 166 2) (by decide +kernel)) dX8_runScript_3 ?_
  refine fc_goi (isC := []) (isR := [0, 1, 2]) (wc := []) (wr := [(mo, .inr (8, [.int rf, .ref sc, .int ss, .int sp, .int ig, .int lf, .ref rd, .ref nw, .ref tr, .ref di, .int ac, .ref kp, .ref ik])), (nw, .inl (tc 0, 357, .inl row)), (tr, .inl (tc 0, 357, .inl trow))]) hP hD hS hA rfl rfl (by decide) (by decide) (fc_runS (isC := []) (As := [.long p0.toInt64, .long 1, .long 2]) (rest := []) hx hb hml hown hts hK hE hP hD hS hA rfl (by decide) (c_X8_in l D tc p0.toInt64 1 2 _ ) (cwS 3 hts gX8_runScript_X8_in rfl rfl rfl hd_X8_in ⟨Nat.le_of_ble_eq_true rfl, Nat.le_of_ble_eq_true rfl⟩) rfl hl.1 rfl (Nat.le_of_ble_eq_true rfl) dX8_runScript_6 ⟨Nat.le_of_ble_eq_true rfl, Nat.le_of_ble_eq_true rfl⟩) (fun r_1 u_1 H locs hw_1 hP hD hS => ?_)
  try dsimp only at hw_1
  have hP : va_P D vwCl [(mo, .inr (8, [.int rf, .ref sc, .int ss, .int sp, .int ig, .int lf, .ref rd, .ref nw, .ref tr, .ref di, .int ac, .ref kp, .ref ik])), (nw, .inl (tc 0, 357, .inl row)), (tr, .inl (tc 0, 357, .inl trow))] H := hP
  have hD : va_D A [(mo, .inr (8, [.int rf, .ref sc, .int ss, .int sp, .int ig, .int lf, .ref rd, .ref nw, .ref tr, .ref di, .int ac, .ref kp, .ref ik])), (nw, .inl (tc 0, 357, .inl row)), (tr, .inl (tc 0, 357, .inl trow))] := hD
  have hi_1 := fx_in3 hw_1 (A := p0.toInt) (B := 1) (C := 2) (Int32.toInt_toInt64 _) (by decide) (by decide)
  refine lv_istore (lv' := [(4, .int r_1), (0, .ref mo), (1, .int p0), (2, .long p1)]) hx hb dX8_runScript_9 hl (by decide) rfl (fun ls hl => ?_)
  refine lv_aload_n hx hb dX8_runScript_11 rfl (lv_at hl 1 rfl) ?_
  refine lv_iload hx hb dX8_runScript_12 (lv_at hl 0 rfl) ?_
  refine lv_if_eq (tgt := 47) hx hb dX8_runScript_14 (by decide) (fun c_2 => ?_) (fun c_2 => ?_)
  · refine lv_iconst (v := 1) hx hb dX8_runScript_47 (by decide) ?_
    refine fc_goi (isC := [0]) (isR := [1, 2]) (wc := [(mo, .inr (8, [.int rf, .ref sc, .int ss, .int sp, .int ig, .int lf, .ref rd, .ref nw, .ref tr, .ref di, .int ac, .ref kp, .ref ik]))]) (wr := [(nw, .inl (tc 0, 357, .inl row)), (tr, .inl (tc 0, 357, .inl trow))]) hP hD hS hA rfl rfl (by decide) (by decide) (fc_runV (isC := [0]) (As := [.int 1]) (rest := []) hx hb hml hown hts hK hE hP hD hS hA rfl (by decide) (c_X8_refused l D tc mo sc rd nw tr di kp ik rf ss sp ig lf ac 1 _ ) (cwV 1 hts gX8_runScript_X8_refused rfl rfl rfl hd_X8_refused ⟨Nat.le_of_ble_eq_true rfl, Nat.le_of_ble_eq_true rfl⟩) (ci := 8) rfl rfl rfl rfl hl.1 rfl (Nat.le_of_ble_eq_true rfl) dX8_runScript_48 ⟨Nat.le_of_ble_eq_true rfl, Nat.le_of_ble_eq_true rfl⟩) (fun r_3 u_3 H locs hw_3 hP hD hS => ?_)
    obtain ⟨rf_3, rfl⟩ : ∃ z, z = u_3 := ⟨_, rfl⟩
    obtain ⟨z1_3, z2_3⟩ := fx_ref1 hw_3
    subst z1_3
    subst z2_3
    have hP : va_P D vwCl [(nw, .inl (tc 0, 357, .inl row)), (tr, .inl (tc 0, 357, .inl trow)), (mo, .inr (8, [.int 1, .ref sc, .int ss, .int sp, .int ig, .int lf, .ref rd, .ref nw, .ref tr, .ref di, .int ac, .ref kp, .ref ik]))] H := hP
    have hD : va_D A [(nw, .inl (tc 0, 357, .inl row)), (tr, .inl (tc 0, 357, .inl trow)), (mo, .inr (8, [.int 1, .ref sc, .int ss, .int sp, .int ig, .int lf, .ref rd, .ref nw, .ref tr, .ref di, .int ac, .ref kp, .ref ik]))] := hD
    refine lv_if_eq (tgt := 56) hx hb dX8_runScript_51 (by decide) (fun c_4 => ?_) (fun c_4 => ?_)
    · exact absurd c_4 (by decide)
    · refine lv_iconst (v := 0) hx hb dX8_runScript_54 (by decide) ?_
      exact hret _ _ (0) (1, trow) _ _ (by rw [mX8_runScript]; (try dsimp only); rw [hw_1]; (try dsimp only); rw [if_pos c_2]; (first | done | rfl)) (hP.sub [2, 0, 1] rfl) (hD.sub [2, 0, 1] (by decide) rfl) hS dX8_runScript_55
  · have hj_1 := hi_1.resolve_left c_2
    refine lv_lload_n hx hb dX8_runScript_17 rfl (lv_at hl 3 rfl) ?_
    refine lv_lconst (v := 0) hx hb dX8_runScript_18 (by decide) ?_
    refine lv_iload hx hb dX8_runScript_19 (lv_at hl 0 rfl) ?_
    refine lv_if_eq (tgt := 31) hx hb dX8_runScript_21 (by decide) (fun c_5 => ?_) (fun c_5 => ?_)
    · exact absurd c_5 c_2
    · refine lv_bipush (v := 7) hx hb dX8_runScript_24 (by decide) ?_
      refine lv_iload_n hx hb dX8_runScript_26 rfl (lv_at hl 2 rfl) ?_
      refine lv_imul hx hb dX8_runScript_27 ?_
      refine lv_goto (tgt := 32) hx hb dX8_runScript_28 (by decide) ?_
      refine fc_gol (isC := []) (isR := [0, 1, 2]) (wc := []) (wr := [(mo, .inr (8, [.int rf, .ref sc, .int ss, .int sp, .int ig, .int lf, .ref rd, .ref nw, .ref tr, .ref di, .int ac, .ref kp, .ref ik])), (nw, .inl (tc 0, 357, .inl row)), (tr, .inl (tc 0, 357, .inl trow))]) hP hD hS hA rfl rfl (by decide) (by decide) (fc_runS (isC := []) (As := [.int (7 * p0)]) (rest := [.long 0, .long p1, .ref mo]) hx hb hml hown hts hK hE hP hD hS hA rfl (by decide) (c_X8_tenTo l D tc (7 * p0) _ (fx_ten20 (by omega))) (cwS 1 hts gX8_runScript_X8_tenTo rfl rfl rfl hd_X8_tenTo ⟨Nat.le_of_ble_eq_true rfl, Nat.le_of_ble_eq_true rfl⟩) rfl hl.1 rfl (Nat.le_of_ble_eq_true rfl) dX8_runScript_32 ⟨Nat.le_of_ble_eq_true rfl, Nat.le_of_ble_eq_true rfl⟩) (fun r_6 u_6 H locs hw_6 hP hD hS => ?_)
      try dsimp only at hw_6
      have hP : va_P D vwCl [(mo, .inr (8, [.int rf, .ref sc, .int ss, .int sp, .int ig, .int lf, .ref rd, .ref nw, .ref tr, .ref di, .int ac, .ref kp, .ref ik])), (nw, .inl (tc 0, 357, .inl row)), (tr, .inl (tc 0, 357, .inl trow))] H := hP
      have hD : va_D A [(mo, .inr (8, [.int rf, .ref sc, .int ss, .int sp, .int ig, .int lf, .ref rd, .ref nw, .ref tr, .ref di, .int ac, .ref kp, .ref ik])), (nw, .inl (tc 0, 357, .inl row)), (tr, .inl (tc 0, 357, .inl trow))] := hD
      refine lv_lconst (v := 1) hx hb dX8_runScript_35 (by decide) ?_
      refine lv_lsub hx hb dX8_runScript_36 ?_
      refine fc_goi (isC := []) (isR := [0, 1, 2]) (wc := []) (wr := [(mo, .inr (8, [.int rf, .ref sc, .int ss, .int sp, .int ig, .int lf, .ref rd, .ref nw, .ref tr, .ref di, .int ac, .ref kp, .ref ik])), (nw, .inl (tc 0, 357, .inl row)), (tr, .inl (tc 0, 357, .inl trow))]) hP hD hS hA rfl rfl (by decide) (by decide) (fc_runS (isC := []) (As := [.long p1, .long 0, .long (r_6 - 1)]) (rest := [.ref mo]) hx hb hml hown hts hK hE hP hD hS hA rfl (by decide) (c_X8_in l D tc p1 0 (r_6 - 1) _ ) (cwS 3 hts gX8_runScript_X8_in rfl rfl rfl hd_X8_in ⟨Nat.le_of_ble_eq_true rfl, Nat.le_of_ble_eq_true rfl⟩) rfl hl.1 rfl (Nat.le_of_ble_eq_true rfl) dX8_runScript_37 ⟨Nat.le_of_ble_eq_true rfl, Nat.le_of_ble_eq_true rfl⟩) (fun r_7 u_7 H locs hw_7 hP hD hS => ?_)
      try dsimp only at hw_7
      have hP : va_P D vwCl [(mo, .inr (8, [.int rf, .ref sc, .int ss, .int sp, .int ig, .int lf, .ref rd, .ref nw, .ref tr, .ref di, .int ac, .ref kp, .ref ik])), (nw, .inl (tc 0, 357, .inl row)), (tr, .inl (tc 0, 357, .inl trow))] H := hP
      have hD : va_D A [(mo, .inr (8, [.int rf, .ref sc, .int ss, .int sp, .int ig, .int lf, .ref rd, .ref nw, .ref tr, .ref di, .int ac, .ref kp, .ref ik])), (nw, .inl (tc 0, 357, .inl row)), (tr, .inl (tc 0, 357, .inl trow))] := hD
      have hi_7 := fx_in3 hw_7 (A := p1.toInt) (B := 0) (C := (r_6 - 1).toInt) rfl (by decide) rfl
      refine lv_if_eq (tgt := 47) hx hb dX8_runScript_40 (by decide) (fun c_8 => ?_) (fun c_8 => ?_)
      · refine lv_iconst (v := 1) hx hb dX8_runScript_47 (by decide) ?_
        refine fc_goi (isC := [0]) (isR := [1, 2]) (wc := [(mo, .inr (8, [.int rf, .ref sc, .int ss, .int sp, .int ig, .int lf, .ref rd, .ref nw, .ref tr, .ref di, .int ac, .ref kp, .ref ik]))]) (wr := [(nw, .inl (tc 0, 357, .inl row)), (tr, .inl (tc 0, 357, .inl trow))]) hP hD hS hA rfl rfl (by decide) (by decide) (fc_runV (isC := [0]) (As := [.int 1]) (rest := []) hx hb hml hown hts hK hE hP hD hS hA rfl (by decide) (c_X8_refused l D tc mo sc rd nw tr di kp ik rf ss sp ig lf ac 1 _ ) (cwV 1 hts gX8_runScript_X8_refused rfl rfl rfl hd_X8_refused ⟨Nat.le_of_ble_eq_true rfl, Nat.le_of_ble_eq_true rfl⟩) (ci := 8) rfl rfl rfl rfl hl.1 rfl (Nat.le_of_ble_eq_true rfl) dX8_runScript_48 ⟨Nat.le_of_ble_eq_true rfl, Nat.le_of_ble_eq_true rfl⟩) (fun r_9 u_9 H locs hw_9 hP hD hS => ?_)
        obtain ⟨rf_9, rfl⟩ : ∃ z, z = u_9 := ⟨_, rfl⟩
        obtain ⟨z1_9, z2_9⟩ := fx_ref1 hw_9
        subst z1_9
        subst z2_9
        have hP : va_P D vwCl [(nw, .inl (tc 0, 357, .inl row)), (tr, .inl (tc 0, 357, .inl trow)), (mo, .inr (8, [.int 1, .ref sc, .int ss, .int sp, .int ig, .int lf, .ref rd, .ref nw, .ref tr, .ref di, .int ac, .ref kp, .ref ik]))] H := hP
        have hD : va_D A [(nw, .inl (tc 0, 357, .inl row)), (tr, .inl (tc 0, 357, .inl trow)), (mo, .inr (8, [.int 1, .ref sc, .int ss, .int sp, .int ig, .int lf, .ref rd, .ref nw, .ref tr, .ref di, .int ac, .ref kp, .ref ik]))] := hD
        refine lv_if_eq (tgt := 56) hx hb dX8_runScript_51 (by decide) (fun c_10 => ?_) (fun c_10 => ?_)
        · exact absurd c_10 (by decide)
        · refine lv_iconst (v := 0) hx hb dX8_runScript_54 (by decide) ?_
          exact hret _ _ (0) (1, trow) _ _ (by rw [mX8_runScript]; (try dsimp only); rw [hw_1]; (try dsimp only); rw [if_neg c_2]; rw [hw_6]; (try dsimp only); rw [hw_7]; (try dsimp only); rw [if_pos c_8]; (first | done | rfl)) (hP.sub [2, 0, 1] rfl) (hD.sub [2, 0, 1] (by decide) rfl) hS dX8_runScript_55
      · have hj_7 := hi_7.resolve_left c_8
        refine lv_iconst (v := 0) hx hb dX8_runScript_43 (by decide) ?_
        refine lv_goto (tgt := 48) hx hb dX8_runScript_44 (by decide) ?_
        refine fc_goi (isC := [0]) (isR := [1, 2]) (wc := [(mo, .inr (8, [.int rf, .ref sc, .int ss, .int sp, .int ig, .int lf, .ref rd, .ref nw, .ref tr, .ref di, .int ac, .ref kp, .ref ik]))]) (wr := [(nw, .inl (tc 0, 357, .inl row)), (tr, .inl (tc 0, 357, .inl trow))]) hP hD hS hA rfl rfl (by decide) (by decide) (fc_runV (isC := [0]) (As := [.int 0]) (rest := []) hx hb hml hown hts hK hE hP hD hS hA rfl (by decide) (c_X8_refused l D tc mo sc rd nw tr di kp ik rf ss sp ig lf ac 0 _ ) (cwV 1 hts gX8_runScript_X8_refused rfl rfl rfl hd_X8_refused ⟨Nat.le_of_ble_eq_true rfl, Nat.le_of_ble_eq_true rfl⟩) (ci := 8) rfl rfl rfl rfl hl.1 rfl (Nat.le_of_ble_eq_true rfl) dX8_runScript_48 ⟨Nat.le_of_ble_eq_true rfl, Nat.le_of_ble_eq_true rfl⟩) (fun r_11 u_11 H locs hw_11 hP hD hS => ?_)
        obtain ⟨rf_11, rfl⟩ : ∃ z, z = u_11 := ⟨_, rfl⟩
        obtain ⟨z1_11, z2_11⟩ := fx_ref0 hw_11
        subst z1_11
        subst z2_11
        have hP : va_P D vwCl [(nw, .inl (tc 0, 357, .inl row)), (tr, .inl (tc 0, 357, .inl trow)), (mo, .inr (8, [.int 0, .ref sc, .int ss, .int sp, .int ig, .int lf, .ref rd, .ref nw, .ref tr, .ref di, .int ac, .ref kp, .ref ik]))] H := hP
        have hD : va_D A [(nw, .inl (tc 0, 357, .inl row)), (tr, .inl (tc 0, 357, .inl trow)), (mo, .inr (8, [.int 0, .ref sc, .int ss, .int sp, .int ig, .int lf, .ref rd, .ref nw, .ref tr, .ref di, .int ac, .ref kp, .ref ik]))] := hD
        refine lv_if_eq (tgt := 56) hx hb dX8_runScript_51 (by decide) (fun c_12 => ?_) (fun c_12 => ?_)
        · refine lv_aload_n hx hb dX8_runScript_56 rfl (lv_at hl 1 rfl) ?_
          refine fc_gov (isC := [2, 0, 1]) (isR := []) (wc := [(mo, .inr (8, [.int 0, .ref sc, .int ss, .int sp, .int ig, .int lf, .ref rd, .ref nw, .ref tr, .ref di, .int ac, .ref kp, .ref ik])), (nw, .inl (tc 0, 357, .inl row)), (tr, .inl (tc 0, 357, .inl trow))]) (wr := []) hP hD hS hA rfl rfl (by decide) (by decide) (fc_runV (isC := [2, 0, 1]) (As := []) (rest := []) hx hb hml hown hts hK hE hP hD hS hA rfl (by decide) (c_X8_tryIt l D tc mo sc rd nw tr di kp ik 0 ss sp ig lf ac row trow _ ) (cwV 0 hts gX8_runScript_X8_tryIt rfl rfl rfl hd_X8_tryIt ⟨Nat.le_of_ble_eq_true rfl, Nat.le_of_ble_eq_true rfl⟩) (ci := 8) rfl rfl rfl rfl hl.1 rfl (Nat.le_of_ble_eq_true rfl) dX8_runScript_57 ⟨Nat.le_of_ble_eq_true rfl, Nat.le_of_ble_eq_true rfl⟩) (fun u_13 H locs hw_13 hP hD hS => ?_)
          obtain ⟨trow_13, rfl⟩ : ∃ z, z = u_13 := ⟨_, rfl⟩
          try dsimp only at hw_13
          have hP : va_P D vwCl [(mo, .inr (8, [.int 0, .ref sc, .int ss, .int sp, .int ig, .int lf, .ref rd, .ref nw, .ref tr, .ref di, .int ac, .ref kp, .ref ik])), (nw, .inl (tc 0, 357, .inl row)), (tr, .inl (tc 0, 357, .inl trow_13))] H := hP
          have hD : va_D A [(mo, .inr (8, [.int 0, .ref sc, .int ss, .int sp, .int ig, .int lf, .ref rd, .ref nw, .ref tr, .ref di, .int ac, .ref kp, .ref ik])), (nw, .inl (tc 0, 357, .inl row)), (tr, .inl (tc 0, 357, .inl trow_13))] := hD
          have hx1 := (RX_tryIt hw_13 hR)
          refine lv_iconst (v := 0) hx hb dX8_runScript_60 (by decide) ?_
          refine lv_istore (lv' := [(5, .int 0), (4, .int r_1), (0, .ref mo), (1, .int p0), (2, .long p1)]) hx hb dX8_runScript_61 hl (by decide) rfl (fun ls hl => ?_)
          have loop_63 : ∀ (k_63 : Nat) (i_63 : Nat) (x5h63 : Int32) (trowh63 : Nat → Int32) (hb_63 : x5h63 = nI i_63) (hm_63 : i_63 ≤ 2 ∧ 2 < i_63 + k_63) (hx_63 : RXn (61 * k_63) trowh63) (hI_63 : mX8_runScript rf ss sp ig lf ac row trow p0 p1 = mX8_runScript_L63 ss sp ig lf ac row p0 p1 r_1 k_63 x5h63 trowh63) (H : Heap) (locs : List Loc), va_P D vwCl [(mo, .inr (8, [.int 0, .ref sc, .int ss, .int sp, .int ig, .int lf, .ref rd, .ref nw, .ref tr, .ref di, .int ac, .ref kp, .ref ik])), (nw, .inl (tc 0, 357, .inl row)), (tr, .inl (tc 0, 357, .inl trowh63))] H → va_D A [(mo, .inr (8, [.int 0, .ref sc, .int ss, .int sp, .int ig, .int lf, .ref rd, .ref nw, .ref tr, .ref di, .int ac, .ref kp, .ref ik])), (nw, .inl (tc 0, 357, .inl row)), (tr, .inl (tc 0, 357, .inl trowh63))] → va_S A s.heap H locs → ∀ ls : Array Slot, lv_has ls 6 [(5, .int x5h63), (4, .int r_1), (0, .ref mo), (1, .int p0), (2, .long p1)] → W p l e rmX8_runScript s m args below meth c H locs 0 0 Q (F0 m 63 ls []) := by
            intro k_63
            induction k_63 with
            | zero =>
              intro i_63 x5h63 trowh63 hb_63 hm_63 hx_63 hI_63 H locs hP hD hS ls hl
              exact absurd hm_63 (by omega)
            | succ k_63 ih_63 =>
              intro i_63 x5h63 trowh63 hb_63 hm_63 hx_63 hI_63 H locs hP hD hS ls hl
              have zz_63 := fc_nI (n := i_63) (by omega)
              rw [← hb_63] at zz_63
              refine lv_iload hx hb dX8_runScript_63 (lv_at hl 0 rfl) ?_
              refine lv_iload_n hx hb dX8_runScript_65 rfl (lv_at hl 3 rfl) ?_
              refine lv_icmp_ge (tgt := 104) hx hb dX8_runScript_66 (by decide) (fun c_14 => ?_) (fun c_14 => ?_)
              · refine lv_iconst (v := (-1)) hx hb dX8_runScript_104 (by decide) ?_
                exact hret _ _ (-1) (0, trowh63) _ _ (by rw [hI_63, mX8_runScript_L63_s, mX8_runScript_S63]; (try dsimp only); rw [if_pos c_14]; (first | done | rfl)) (hP.sub [0, 1, 2] rfl) (hD.sub [0, 1, 2] (by decide) rfl) hS dX8_runScript_105
              · refine lv_aload_n hx hb dX8_runScript_69 rfl (lv_at hl 2 rfl) ?_
                refine lv_lload_n hx hb dX8_runScript_70 rfl (lv_at hl 4 rfl) ?_
                refine lv_bipush (v := 7) hx hb dX8_runScript_71 (by decide) ?_
                refine lv_iload_n hx hb dX8_runScript_73 rfl (lv_at hl 3 rfl) ?_
                refine lv_iconst (v := 1) hx hb dX8_runScript_74 (by decide) ?_
                refine lv_isub hx hb dX8_runScript_75 ?_
                refine lv_iload hx hb dX8_runScript_76 (lv_at hl 0 rfl) ?_
                refine lv_isub hx hb dX8_runScript_78 ?_
                refine lv_imul hx hb dX8_runScript_79 ?_
                have hxl := fx_nle (by assumption : ¬ p0 ≤ x5h63)
                refine fc_gol (isC := []) (isR := [0, 1, 2]) (wc := []) (wr := [(mo, .inr (8, [.int 0, .ref sc, .int ss, .int sp, .int ig, .int lf, .ref rd, .ref nw, .ref tr, .ref di, .int ac, .ref kp, .ref ik])), (nw, .inl (tc 0, 357, .inl row)), (tr, .inl (tc 0, 357, .inl trowh63))]) hP hD hS hA rfl rfl (by decide) (by decide) (fc_runS (isC := []) (As := [.int (7 * ((p0 - 1) - x5h63))]) (rest := [.long p1, .ref mo]) hx hb hml hown hts hK hE hP hD hS hA rfl (by decide) (c_X8_tenTo l D tc (7 * ((p0 - 1) - x5h63)) _ (fx_ten20b (by omega) (by omega))) (cwS 1 hts gX8_runScript_X8_tenTo rfl rfl rfl hd_X8_tenTo ⟨Nat.le_of_ble_eq_true rfl, Nat.le_of_ble_eq_true rfl⟩) rfl hl.1 rfl (Nat.le_of_ble_eq_true rfl) dX8_runScript_80 ⟨Nat.le_of_ble_eq_true rfl, Nat.le_of_ble_eq_true rfl⟩) (fun r_15 u_15 H locs hw_15 hP hD hS => ?_)
                try dsimp only at hw_15
                have hP : va_P D vwCl [(mo, .inr (8, [.int 0, .ref sc, .int ss, .int sp, .int ig, .int lf, .ref rd, .ref nw, .ref tr, .ref di, .int ac, .ref kp, .ref ik])), (nw, .inl (tc 0, 357, .inl row)), (tr, .inl (tc 0, 357, .inl trowh63))] H := hP
                have hD : va_D A [(mo, .inr (8, [.int 0, .ref sc, .int ss, .int sp, .int ig, .int lf, .ref rd, .ref nw, .ref tr, .ref di, .int ac, .ref kp, .ref ik])), (nw, .inl (tc 0, 357, .inl row)), (tr, .inl (tc 0, 357, .inl trowh63))] := hD
                have hT := (fx_tenTo hw_15 (by omega) (by omega))
                refine lv_ldiv hx hb dX8_runScript_83 (fx_tenNe hT) ?_
                refine lv_ldc2 (v := 10000000) hx hb hown (hts (.constantLong RX8 217 10000000) (by decide +kernel)) dX8_runScript_84 ?_
                refine lv_lrem hx hb dX8_runScript_87 (by decide) ?_
                refine lv_l2i hx hb dX8_runScript_88 rfl ?_
                have hGG := fx_group hT (p1 := p1) (by omega)
                refine fc_goi (isC := [0, 2]) (isR := [1]) (wc := [(mo, .inr (8, [.int 0, .ref sc, .int ss, .int sp, .int ig, .int lf, .ref rd, .ref nw, .ref tr, .ref di, .int ac, .ref kp, .ref ik])), (tr, .inl (tc 0, 357, .inl trowh63))]) (wr := [(nw, .inl (tc 0, 357, .inl row))]) hP hD hS hA rfl rfl (by decide) (by decide) (fc_runV (isC := [0, 2]) (As := [.int (((p1 / r_15) - (p1 / r_15) / 10000000 * 10000000) : Int64).toInt32]) (rest := []) hx hb hml hown hts hK hE hP hD hS hA rfl (by decide) (c_X8_does l D tc mo sc rd nw tr di kp ik 0 ss sp ig lf ac trowh63 ((((p1 / r_15) - (p1 / r_15) / 10000000 * 10000000) : Int64).toInt32) _ (hx_63.mono (by omega)) hGG) (cwV 1 hts gX8_runScript_X8_does rfl rfl rfl hd_X8_does ⟨Nat.le_of_ble_eq_true rfl, Nat.le_of_ble_eq_true rfl⟩) (ci := 8) rfl rfl rfl rfl hl.1 rfl (Nat.le_of_ble_eq_true rfl) dX8_runScript_89 ⟨Nat.le_of_ble_eq_true rfl, Nat.le_of_ble_eq_true rfl⟩) (fun r_16 u_16 H locs hw_16 hP hD hS => ?_)
                obtain ⟨trow_16, rfl⟩ : ∃ z, z = u_16 := ⟨_, rfl⟩
                try dsimp only at hw_16
                have hP : va_P D vwCl [(nw, .inl (tc 0, 357, .inl row)), (mo, .inr (8, [.int 0, .ref sc, .int ss, .int sp, .int ig, .int lf, .ref rd, .ref nw, .ref tr, .ref di, .int ac, .ref kp, .ref ik])), (tr, .inl (tc 0, 357, .inl trow_16))] H := hP
                have hD : va_D A [(nw, .inl (tc 0, 357, .inl row)), (mo, .inr (8, [.int 0, .ref sc, .int ss, .int sp, .int ig, .int lf, .ref rd, .ref nw, .ref tr, .ref di, .int ac, .ref kp, .ref ik])), (tr, .inl (tc 0, 357, .inl trow_16))] := hD
                have HD := hw_16
                refine lv_if_ne (tgt := 98) hx hb dX8_runScript_92 (by decide) (fun c_17 => ?_) (fun c_17 => ?_)
                · refine lv_iinc (v := (x5h63 + 1)) (lv' := [(5, .int (x5h63 + 1)), (4, .int r_1), (0, .ref mo), (1, .int p0), (2, .long p1)]) hx hb dX8_runScript_98 hl (k := 0) rfl rfl (by decide) rfl (fun ls hl => ?_)
                  refine lv_goto (tgt := 63) hx hb dX8_runScript_101 (by decide) ?_
                  exact ih_63 (i_63 + 1) (x5h63 + 1) trow_16 (by rw [hb_63]; exact nI_1 _) (by have l_0 : (0 : Int32).toInt = 0 := (by decide); have l_1 : (1 : Int32).toInt = 1 := (by decide); have l_2 : (2 : Int32).toInt = 2 := (by decide); have l_3 : (3 : Int32).toInt = 3 := (by decide); have l_4 : (4 : Int32).toInt = 4 := (by decide); have qc_14 := c_14; (try simp only [fc_le, fc_lt, fc_eq] at qc_14); have qc_17 := c_17; (try simp only [fc_le, fc_lt, fc_eq] at qc_17); skip; omega) (RX_does (m := 61 * k_63) (hx_63.mono (by omega)) hGG HD) (by rw [hI_63, mX8_runScript_L63_s, mX8_runScript_S63]; (try dsimp only); rw [if_neg c_14]; rw [hw_15]; (try dsimp only); rw [hw_16]; (try dsimp only); rw [if_neg c_17]; (first | done | rfl)) _ _ (hP.sub [1, 0, 2] rfl) (hD.sub [1, 0, 2] (by decide) rfl) hS ls (lv_sub hl [0, 1, 2, 3, 4] rfl)
                · refine lv_iload hx hb dX8_runScript_95 (lv_at hl 0 rfl) ?_
                  exact hret _ _ (x5h63) (0, trow_16) _ _ (by rw [hI_63, mX8_runScript_L63_s, mX8_runScript_S63]; (try dsimp only); rw [if_neg c_14]; rw [hw_15]; (try dsimp only); rw [hw_16]; (try dsimp only); rw [if_pos c_17]; (first | done | rfl)) (hP.sub [1, 0, 2] rfl) (hD.sub [1, 0, 2] (by decide) rfl) hS dX8_runScript_97
          exact loop_63 3 0 0 trow_13 rfl (by omega) (hx1.mono (by omega)) (by rw [mX8_runScript]; (try dsimp only); rw [hw_1]; (try dsimp only); rw [if_neg c_2]; rw [hw_6]; (try dsimp only); rw [hw_7]; (try dsimp only); rw [if_neg c_8]; rw [hw_13]; (try dsimp only); (first | done | rfl)) _ _ (hP.sub [0, 1, 2] rfl) (hD.sub [0, 1, 2] (by decide) rfl) hS ls (lv_sub hl [0, 1, 2, 3, 4] rfl)
        · exact absurd (by decide) c_12
--# X8_simulate
noncomputable def mX8_simulate_S40 (ss : Int32) (sp : Int32) (ig : Int32) (lf : Int32) (ac : Int32) (row : Nat → Int32) (p0 : Int64) (p1 : Int32) (ih_40 : Int64 → Int32 → Int32 → (Nat → Int32) → Int32 × Int32 × (Nat → Int32)) (x4h40 : Int64) (x6h40 : Int32) (x7h40 : Int32) (trowh40 : Nat → Int32) : Int32 × Int32 × (Nat → Int32) :=
  if p1 ≤ x7h40 then
    ((((10000 * ((trowh40 (6 : Int32).toNatClampNeg) - (row (6 : Int32).toNatClampNeg))) + (100 * ((trowh40 (7 : Int32).toNatClampNeg) - (row (7 : Int32).toNatClampNeg)))) + (trowh40 (16 : Int32).toNatClampNeg)), 0, trowh40)
  else
    if (((((x4h40 * 6364136223846793005) + 1442695040888963407).toUInt64 >>> ((33 : Int32).toInt64.toUInt64 &&& Int64.toUInt64 63)).toInt64 : Int64).toInt32 - ((((x4h40 * 6364136223846793005) + 1442695040888963407).toUInt64 >>> ((33 : Int32).toInt64.toUInt64 &&& Int64.toUInt64 63)).toInt64 : Int64).toInt32 / 4 * 4) = 0 then
      if 3 ≤ ((((((x4h40 * 6364136223846793005) + 1442695040888963407).toUInt64 >>> ((33 : Int32).toInt64.toUInt64 &&& Int64.toUInt64 63)).toInt64 : Int64).toInt32 / 4) - (((((x4h40 * 6364136223846793005) + 1442695040888963407).toUInt64 >>> ((33 : Int32).toInt64.toUInt64 &&& Int64.toUInt64 63)).toInt64 : Int64).toInt32 / 4) / 4 * 4) then
        match mX8_tick trowh40 with
        | (r_20, row_20) =>
          ih_40 ((x4h40 * 6364136223846793005) + 1442695040888963407) ((((((x4h40 * 6364136223846793005) + 1442695040888963407).toUInt64 >>> ((33 : Int32).toInt64.toUInt64 &&& Int64.toUInt64 63)).toInt64 : Int64).toInt32 / 64) - (((((x4h40 * 6364136223846793005) + 1442695040888963407).toUInt64 >>> ((33 : Int32).toInt64.toUInt64 &&& Int64.toUInt64 63)).toInt64 : Int64).toInt32 / 64) / 1000000 * 1000000) (x7h40 + 1) row_20
      else
        match mX8_shootIn trowh40 ((((((x4h40 * 6364136223846793005) + 1442695040888963407).toUInt64 >>> ((33 : Int32).toInt64.toUInt64 &&& Int64.toUInt64 63)).toInt64 : Int64).toInt32 / 64) - (((((x4h40 * 6364136223846793005) + 1442695040888963407).toUInt64 >>> ((33 : Int32).toInt64.toUInt64 &&& Int64.toUInt64 63)).toInt64 : Int64).toInt32 / 64) / 1000000 * 1000000) with
        | (r_21, row_21) =>
          match mX8_tick row_21 with
          | (r_22, row_22) =>
            ih_40 ((x4h40 * 6364136223846793005) + 1442695040888963407) ((((((x4h40 * 6364136223846793005) + 1442695040888963407).toUInt64 >>> ((33 : Int32).toInt64.toUInt64 &&& Int64.toUInt64 63)).toInt64 : Int64).toInt32 / 64) - (((((x4h40 * 6364136223846793005) + 1442695040888963407).toUInt64 >>> ((33 : Int32).toInt64.toUInt64 &&& Int64.toUInt64 63)).toInt64 : Int64).toInt32 / 64) / 1000000 * 1000000) (x7h40 + 1) row_22
    else
      if (((((x4h40 * 6364136223846793005) + 1442695040888963407).toUInt64 >>> ((33 : Int32).toInt64.toUInt64 &&& Int64.toUInt64 63)).toInt64 : Int64).toInt32 - ((((x4h40 * 6364136223846793005) + 1442695040888963407).toUInt64 >>> ((33 : Int32).toInt64.toUInt64 &&& Int64.toUInt64 63)).toInt64 : Int64).toInt32 / 4 * 4) = 1 then
        if 3 ≤ ((((((x4h40 * 6364136223846793005) + 1442695040888963407).toUInt64 >>> ((33 : Int32).toInt64.toUInt64 &&& Int64.toUInt64 63)).toInt64 : Int64).toInt32 / 4) - (((((x4h40 * 6364136223846793005) + 1442695040888963407).toUInt64 >>> ((33 : Int32).toInt64.toUInt64 &&& Int64.toUInt64 63)).toInt64 : Int64).toInt32 / 4) / 4 * 4) then
          match mX8_tick trowh40 with
          | (r_16, row_16) =>
            ih_40 ((x4h40 * 6364136223846793005) + 1442695040888963407) (((x6h40 / 10) * 10) + ((((((x4h40 * 6364136223846793005) + 1442695040888963407).toUInt64 >>> ((33 : Int32).toInt64.toUInt64 &&& Int64.toUInt64 63)).toInt64 : Int64).toInt32 / 64) - (((((x4h40 * 6364136223846793005) + 1442695040888963407).toUInt64 >>> ((33 : Int32).toInt64.toUInt64 &&& Int64.toUInt64 63)).toInt64 : Int64).toInt32 / 64) / 10 * 10)) (x7h40 + 1) row_16
        else
          match mX8_shootIn trowh40 (((x6h40 / 10) * 10) + ((((((x4h40 * 6364136223846793005) + 1442695040888963407).toUInt64 >>> ((33 : Int32).toInt64.toUInt64 &&& Int64.toUInt64 63)).toInt64 : Int64).toInt32 / 64) - (((((x4h40 * 6364136223846793005) + 1442695040888963407).toUInt64 >>> ((33 : Int32).toInt64.toUInt64 &&& Int64.toUInt64 63)).toInt64 : Int64).toInt32 / 64) / 10 * 10)) with
          | (r_17, row_17) =>
            match mX8_tick row_17 with
            | (r_18, row_18) =>
              ih_40 ((x4h40 * 6364136223846793005) + 1442695040888963407) (((x6h40 / 10) * 10) + ((((((x4h40 * 6364136223846793005) + 1442695040888963407).toUInt64 >>> ((33 : Int32).toInt64.toUInt64 &&& Int64.toUInt64 63)).toInt64 : Int64).toInt32 / 64) - (((((x4h40 * 6364136223846793005) + 1442695040888963407).toUInt64 >>> ((33 : Int32).toInt64.toUInt64 &&& Int64.toUInt64 63)).toInt64 : Int64).toInt32 / 64) / 10 * 10)) (x7h40 + 1) row_18
      else
        if 3 ≤ ((((((x4h40 * 6364136223846793005) + 1442695040888963407).toUInt64 >>> ((33 : Int32).toInt64.toUInt64 &&& Int64.toUInt64 63)).toInt64 : Int64).toInt32 / 4) - (((((x4h40 * 6364136223846793005) + 1442695040888963407).toUInt64 >>> ((33 : Int32).toInt64.toUInt64 &&& Int64.toUInt64 63)).toInt64 : Int64).toInt32 / 4) / 4 * 4) then
          match mX8_tick trowh40 with
          | (r_12, row_12) =>
            ih_40 ((x4h40 * 6364136223846793005) + 1442695040888963407) x6h40 (x7h40 + 1) row_12
        else
          match mX8_shootIn trowh40 x6h40 with
          | (r_13, row_13) =>
            match mX8_tick row_13 with
            | (r_14, row_14) =>
              ih_40 ((x4h40 * 6364136223846793005) + 1442695040888963407) x6h40 (x7h40 + 1) row_14
noncomputable def mX8_simulate_L40 (ss : Int32) (sp : Int32) (ig : Int32) (lf : Int32) (ac : Int32) (row : Nat → Int32) (p0 : Int64) (p1 : Int32) (k : Nat) : Int64 → Int32 → Int32 → (Nat → Int32) → Int32 × Int32 × (Nat → Int32) := Nat.rec (motive := fun _ => Int64 → Int32 → Int32 → (Nat → Int32) → Int32 × Int32 × (Nat → Int32)) (fun x4h40 x6h40 x7h40 trowh40 => (0, 0, trowh40)) (fun _ ih => mX8_simulate_S40 ss sp ig lf ac row p0 p1 ih) k
theorem mX8_simulate_L40_z (ss : Int32) (sp : Int32) (ig : Int32) (lf : Int32) (ac : Int32) (row : Nat → Int32) (p0 : Int64) (p1 : Int32) (x4h40 : Int64) (x6h40 : Int32) (x7h40 : Int32) (trowh40 : Nat → Int32) : mX8_simulate_L40 ss sp ig lf ac row p0 p1 0 x4h40 x6h40 x7h40 trowh40 = (0, 0, trowh40) := rfl
theorem mX8_simulate_L40_s (ss : Int32) (sp : Int32) (ig : Int32) (lf : Int32) (ac : Int32) (row : Nat → Int32) (p0 : Int64) (p1 : Int32) (k : Nat) (x4h40 : Int64) (x6h40 : Int32) (x7h40 : Int32) (trowh40 : Nat → Int32) : mX8_simulate_L40 ss sp ig lf ac row p0 p1 (k + 1) x4h40 x6h40 x7h40 trowh40 = mX8_simulate_S40 ss sp ig lf ac row p0 p1 (mX8_simulate_L40 ss sp ig lf ac row p0 p1 k) x4h40 x6h40 x7h40 trowh40 := rfl
noncomputable def mX8_simulate (rf : Int32) (ss : Int32) (sp : Int32) (ig : Int32) (lf : Int32) (ac : Int32) (row : Nat → Int32) (trow : Nat → Int32) (p0 : Int64) (p1 : Int32) : Int32 × Int32 × (Nat → Int32) :=
  let r_1 := mX8_in p1.toInt64 1 99
  if r_1 = 0 then
    (0, 1, trow)
  else
    let trow_7 := mX8_tryIt 0 ss sp ig lf ac row trow
    mX8_simulate_L40 ss sp ig lf ac row p0 p1 100 p0 123456 0 trow_7
set_option maxRecDepth 20000 in
theorem iX8_simulate_X8 : ∀ w ∈ wsX80, w ∈ wsX8_simulate := by decide +kernel
abbrev rmX8_simulate : Room := { frames := 4, cells := 0, slots := 0, locals := 91 }
set_option maxHeartbeats 4000000 in
set_option maxRecDepth 100000 in
theorem c_X8_simulate (l : Launch) (D : va_G) (tc : Nat → ClassId) (mo : Nat) (sc : Nat) (rd : Nat) (nw : Nat) (tr : Nat) (di : Nat) (kp : Nat) (ik : Nat) (rf : Int32) (ss : Int32) (sp : Int32) (ig : Int32) (lf : Int32) (ac : Int32) (row : Nat → Int32) (trow : Nat → Int32) (p0 : Int64) (p1 : Int32) (sz : Nat) (hR : RXn 300 row) : Met l yX8_simulate wsX8_simulate rmX8_simulate (va_Pc [.ref mo, .long p0, .int p1] (fcB D tc [(mo, .inr (8, [.int rf, .ref sc, .int ss, .int sp, .int ig, .int lf, .ref rd, .ref nw, .ref tr, .ref di, .int ac, .ref kp, .ref ik])), (nw, .inl (tc 0, 357, .inl row)), (tr, .inl (tc 0, 357, .inl trow))] sz)) (va_Qi (fun (r : Int32) (u : Int32 × (Nat → Int32)) => mX8_simulate rf ss sp ig lf ac row trow p0 p1 = (r, u)) (fun u t => fcO D (va_A [(mo, .inr (8, [.int rf, .ref sc, .int ss, .int sp, .int ig, .int lf, .ref rd, .ref nw, .ref tr, .ref di, .int ac, .ref kp, .ref ik])), (nw, .inl (tc 0, 357, .inl row)), (tr, .inl (tc 0, 357, .inl trow))] sz) ((fun (u : Int32 × (Nat → Int32)) => [(mo, .inr (8, [.int (u.1), .ref sc, .int ss, .int sp, .int ig, .int lf, .ref rd, .ref nw, .ref tr, .ref di, .int ac, .ref kp, .ref ik])), (nw, .inl (tc 0, 357, .inl row)), (tr, .inl (tc 0, 357, .inl (u.2)))]) u) t) (va_A [(mo, .inr (8, [.int rf, .ref sc, .int ss, .int sp, .int ig, .int lf, .ref rd, .ref nw, .ref tr, .ref di, .int ac, .ref kp, .ref ik])), (nw, .inl (tc 0, 357, .inl row)), (tr, .inl (tc 0, 357, .inl trow))] sz)) 0 0 (va_A [(mo, .inr (8, [.int rf, .ref sc, .int ss, .int sp, .int ig, .int lf, .ref rd, .ref nw, .ref tr, .ref di, .int ac, .ref kp, .ref ik])), (nw, .inl (tc 0, 357, .inl row)), (tr, .inl (tc 0, 357, .inl trow))] sz) := by
  refine fc_ofWi (own := RX8) (cc := cX8_simulate) (maxL := 9) (W1 := (fun (u : Int32 × (Nat → Int32)) => [(mo, .inr (8, [.int (u.1), .ref sc, .int ss, .int sp, .int ig, .int lf, .ref rd, .ref nw, .ref tr, .ref di, .int ac, .ref kp, .ref ik])), (nw, .inl (tc 0, 357, .inl row)), (tr, .inl (tc 0, 357, .inl (u.2)))])) rfl (by decide) rfl (Nat.le_of_ble_eq_true rfl) ?_
  intro p e s m args below meth c A Q hx hb hml hown hts hK hE hP hD hS hA hin hret ls hl
  have hl : lv_has ls 9 [(0, .ref mo), (1, .long p0), (3, .int p1)] := hl
  refine lv_aload_n hx hb dX8_simulate_0 rfl (lv_at hl 0 rfl) ?_
  refine lv_iload_n hx hb dX8_simulate_1 rfl (lv_at hl 2 rfl) ?_
  refine lv_i2l hx hb dX8_simulate_2 rfl ?_
  refine lv_lconst (v := 1) hx hb dX8_simulate_3 (by decide) ?_
  refine lv_ldc2 (v := 99) hx hb hown (hts (.constantLong RX8 222 99) (by decide +kernel)) dX8_simulate_4 ?_
  refine fc_goi (isC := []) (isR := [0, 1, 2]) (wc := []) (wr := [(mo, .inr (8, [.int rf, .ref sc, .int ss, .int sp, .int ig, .int lf, .ref rd, .ref nw, .ref tr, .ref di, .int ac, .ref kp, .ref ik])), (nw, .inl (tc 0, 357, .inl row)), (tr, .inl (tc 0, 357, .inl trow))]) hP hD hS hA rfl rfl (by decide) (by decide) (fc_runS (isC := []) (As := [.long p1.toInt64, .long 1, .long 99]) (rest := [.ref mo]) hx hb hml hown hts hK hE hP hD hS hA rfl (by decide) (c_X8_in l D tc p1.toInt64 1 99 _ ) (cwS 3 hts gX8_simulate_X8_in rfl rfl rfl hd_X8_in ⟨Nat.le_of_ble_eq_true rfl, Nat.le_of_ble_eq_true rfl⟩) rfl hl.1 rfl (Nat.le_of_ble_eq_true rfl) dX8_simulate_7 ⟨Nat.le_of_ble_eq_true rfl, Nat.le_of_ble_eq_true rfl⟩) (fun r_1 u_1 H locs hw_1 hP hD hS => ?_)
  try dsimp only at hw_1
  have hP : va_P D vwCl [(mo, .inr (8, [.int rf, .ref sc, .int ss, .int sp, .int ig, .int lf, .ref rd, .ref nw, .ref tr, .ref di, .int ac, .ref kp, .ref ik])), (nw, .inl (tc 0, 357, .inl row)), (tr, .inl (tc 0, 357, .inl trow))] H := hP
  have hD : va_D A [(mo, .inr (8, [.int rf, .ref sc, .int ss, .int sp, .int ig, .int lf, .ref rd, .ref nw, .ref tr, .ref di, .int ac, .ref kp, .ref ik])), (nw, .inl (tc 0, 357, .inl row)), (tr, .inl (tc 0, 357, .inl trow))] := hD
  have hi_1 := fx_in3 hw_1 (A := p1.toInt) (B := 1) (C := 99) (Int32.toInt_toInt64 _) (by decide) (by decide)
  refine lv_if_eq (tgt := 17) hx hb dX8_simulate_10 (by decide) (fun c_2 => ?_) (fun c_2 => ?_)
  · refine lv_iconst (v := 1) hx hb dX8_simulate_17 (by decide) ?_
    refine fc_goi (isC := [0]) (isR := [1, 2]) (wc := [(mo, .inr (8, [.int rf, .ref sc, .int ss, .int sp, .int ig, .int lf, .ref rd, .ref nw, .ref tr, .ref di, .int ac, .ref kp, .ref ik]))]) (wr := [(nw, .inl (tc 0, 357, .inl row)), (tr, .inl (tc 0, 357, .inl trow))]) hP hD hS hA rfl rfl (by decide) (by decide) (fc_runV (isC := [0]) (As := [.int 1]) (rest := []) hx hb hml hown hts hK hE hP hD hS hA rfl (by decide) (c_X8_refused l D tc mo sc rd nw tr di kp ik rf ss sp ig lf ac 1 _ ) (cwV 1 hts gX8_simulate_X8_refused rfl rfl rfl hd_X8_refused ⟨Nat.le_of_ble_eq_true rfl, Nat.le_of_ble_eq_true rfl⟩) (ci := 8) rfl rfl rfl rfl hl.1 rfl (Nat.le_of_ble_eq_true rfl) dX8_simulate_18 ⟨Nat.le_of_ble_eq_true rfl, Nat.le_of_ble_eq_true rfl⟩) (fun r_3 u_3 H locs hw_3 hP hD hS => ?_)
    obtain ⟨rf_3, rfl⟩ : ∃ z, z = u_3 := ⟨_, rfl⟩
    obtain ⟨z1_3, z2_3⟩ := fx_ref1 hw_3
    subst z1_3
    subst z2_3
    have hP : va_P D vwCl [(nw, .inl (tc 0, 357, .inl row)), (tr, .inl (tc 0, 357, .inl trow)), (mo, .inr (8, [.int 1, .ref sc, .int ss, .int sp, .int ig, .int lf, .ref rd, .ref nw, .ref tr, .ref di, .int ac, .ref kp, .ref ik]))] H := hP
    have hD : va_D A [(nw, .inl (tc 0, 357, .inl row)), (tr, .inl (tc 0, 357, .inl trow)), (mo, .inr (8, [.int 1, .ref sc, .int ss, .int sp, .int ig, .int lf, .ref rd, .ref nw, .ref tr, .ref di, .int ac, .ref kp, .ref ik]))] := hD
    refine lv_if_eq (tgt := 26) hx hb dX8_simulate_21 (by decide) (fun c_4 => ?_) (fun c_4 => ?_)
    · exact absurd c_4 (by decide)
    · refine lv_iconst (v := 0) hx hb dX8_simulate_24 (by decide) ?_
      exact hret _ _ (0) (1, trow) _ _ (by rw [mX8_simulate]; (try dsimp only); rw [hw_1]; (try dsimp only); rw [if_pos c_2]; (first | done | rfl)) (hP.sub [2, 0, 1] rfl) (hD.sub [2, 0, 1] (by decide) rfl) hS dX8_simulate_25
  · have hj_1 := hi_1.resolve_left c_2
    refine lv_iconst (v := 0) hx hb dX8_simulate_13 (by decide) ?_
    refine lv_goto (tgt := 18) hx hb dX8_simulate_14 (by decide) ?_
    refine fc_goi (isC := [0]) (isR := [1, 2]) (wc := [(mo, .inr (8, [.int rf, .ref sc, .int ss, .int sp, .int ig, .int lf, .ref rd, .ref nw, .ref tr, .ref di, .int ac, .ref kp, .ref ik]))]) (wr := [(nw, .inl (tc 0, 357, .inl row)), (tr, .inl (tc 0, 357, .inl trow))]) hP hD hS hA rfl rfl (by decide) (by decide) (fc_runV (isC := [0]) (As := [.int 0]) (rest := []) hx hb hml hown hts hK hE hP hD hS hA rfl (by decide) (c_X8_refused l D tc mo sc rd nw tr di kp ik rf ss sp ig lf ac 0 _ ) (cwV 1 hts gX8_simulate_X8_refused rfl rfl rfl hd_X8_refused ⟨Nat.le_of_ble_eq_true rfl, Nat.le_of_ble_eq_true rfl⟩) (ci := 8) rfl rfl rfl rfl hl.1 rfl (Nat.le_of_ble_eq_true rfl) dX8_simulate_18 ⟨Nat.le_of_ble_eq_true rfl, Nat.le_of_ble_eq_true rfl⟩) (fun r_5 u_5 H locs hw_5 hP hD hS => ?_)
    obtain ⟨rf_5, rfl⟩ : ∃ z, z = u_5 := ⟨_, rfl⟩
    obtain ⟨z1_5, z2_5⟩ := fx_ref0 hw_5
    subst z1_5
    subst z2_5
    have hP : va_P D vwCl [(nw, .inl (tc 0, 357, .inl row)), (tr, .inl (tc 0, 357, .inl trow)), (mo, .inr (8, [.int 0, .ref sc, .int ss, .int sp, .int ig, .int lf, .ref rd, .ref nw, .ref tr, .ref di, .int ac, .ref kp, .ref ik]))] H := hP
    have hD : va_D A [(nw, .inl (tc 0, 357, .inl row)), (tr, .inl (tc 0, 357, .inl trow)), (mo, .inr (8, [.int 0, .ref sc, .int ss, .int sp, .int ig, .int lf, .ref rd, .ref nw, .ref tr, .ref di, .int ac, .ref kp, .ref ik]))] := hD
    refine lv_if_eq (tgt := 26) hx hb dX8_simulate_21 (by decide) (fun c_6 => ?_) (fun c_6 => ?_)
    · refine lv_aload_n hx hb dX8_simulate_26 rfl (lv_at hl 0 rfl) ?_
      refine fc_gov (isC := [2, 0, 1]) (isR := []) (wc := [(mo, .inr (8, [.int 0, .ref sc, .int ss, .int sp, .int ig, .int lf, .ref rd, .ref nw, .ref tr, .ref di, .int ac, .ref kp, .ref ik])), (nw, .inl (tc 0, 357, .inl row)), (tr, .inl (tc 0, 357, .inl trow))]) (wr := []) hP hD hS hA rfl rfl (by decide) (by decide) (fc_runV (isC := [2, 0, 1]) (As := []) (rest := []) hx hb hml hown hts hK hE hP hD hS hA rfl (by decide) (c_X8_tryIt l D tc mo sc rd nw tr di kp ik 0 ss sp ig lf ac row trow _ ) (cwV 0 hts gX8_simulate_X8_tryIt rfl rfl rfl hd_X8_tryIt ⟨Nat.le_of_ble_eq_true rfl, Nat.le_of_ble_eq_true rfl⟩) (ci := 8) rfl rfl rfl rfl hl.1 rfl (Nat.le_of_ble_eq_true rfl) dX8_simulate_27 ⟨Nat.le_of_ble_eq_true rfl, Nat.le_of_ble_eq_true rfl⟩) (fun u_7 H locs hw_7 hP hD hS => ?_)
      obtain ⟨trow_7, rfl⟩ : ∃ z, z = u_7 := ⟨_, rfl⟩
      try dsimp only at hw_7
      have hP : va_P D vwCl [(mo, .inr (8, [.int 0, .ref sc, .int ss, .int sp, .int ig, .int lf, .ref rd, .ref nw, .ref tr, .ref di, .int ac, .ref kp, .ref ik])), (nw, .inl (tc 0, 357, .inl row)), (tr, .inl (tc 0, 357, .inl trow_7))] H := hP
      have hD : va_D A [(mo, .inr (8, [.int 0, .ref sc, .int ss, .int sp, .int ig, .int lf, .ref rd, .ref nw, .ref tr, .ref di, .int ac, .ref kp, .ref ik])), (nw, .inl (tc 0, 357, .inl row)), (tr, .inl (tc 0, 357, .inl trow_7))] := hD
      have hx1 := (RX_tryIt hw_7 hR)
      refine lv_lload_n hx hb dX8_simulate_30 rfl (lv_at hl 1 rfl) ?_
      refine lv_lstore (lv' := [(4, .long p0), (0, .ref mo), (1, .long p0), (3, .int p1)]) hx hb dX8_simulate_31 hl (by decide) rfl (fun ls hl => ?_)
      refine lv_ldc (v := 123456) hx hb hown (hts (.constant RX8 224 123456) (by decide +kernel)) dX8_simulate_33 ?_
      refine lv_istore (lv' := [(6, .int 123456), (4, .long p0), (0, .ref mo), (1, .long p0), (3, .int p1)]) hx hb dX8_simulate_35 hl (by decide) rfl (fun ls hl => ?_)
      refine lv_iconst (v := 0) hx hb dX8_simulate_37 (by decide) ?_
      refine lv_istore (lv' := [(7, .int 0), (6, .int 123456), (4, .long p0), (0, .ref mo), (1, .long p0), (3, .int p1)]) hx hb dX8_simulate_38 hl (by decide) rfl (fun ls hl => ?_)
      have loop_40 : ∀ (k_40 : Nat) (i_40 : Nat) (x4h40 : Int64) (x6h40 : Int32) (x7h40 : Int32) (trowh40 : Nat → Int32) (hb_40 : x7h40 = nI i_40) (hm_40 : i_40 ≤ 99 ∧ 99 < i_40 + k_40) (hp_40 : 0 ≤ x6h40.toInt ∧ x6h40.toInt ≤ 999999) (hx_40 : RXn (2 * k_40) trowh40) (hI_40 : mX8_simulate rf ss sp ig lf ac row trow p0 p1 = mX8_simulate_L40 ss sp ig lf ac row p0 p1 k_40 x4h40 x6h40 x7h40 trowh40) (H : Heap) (locs : List Loc), va_P D vwCl [(mo, .inr (8, [.int 0, .ref sc, .int ss, .int sp, .int ig, .int lf, .ref rd, .ref nw, .ref tr, .ref di, .int ac, .ref kp, .ref ik])), (nw, .inl (tc 0, 357, .inl row)), (tr, .inl (tc 0, 357, .inl trowh40))] H → va_D A [(mo, .inr (8, [.int 0, .ref sc, .int ss, .int sp, .int ig, .int lf, .ref rd, .ref nw, .ref tr, .ref di, .int ac, .ref kp, .ref ik])), (nw, .inl (tc 0, 357, .inl row)), (tr, .inl (tc 0, 357, .inl trowh40))] → va_S A s.heap H locs → ∀ ls : Array Slot, lv_has ls 9 [(7, .int x7h40), (6, .int x6h40), (4, .long x4h40), (0, .ref mo), (1, .long p0), (3, .int p1)] → W p l e rmX8_simulate s m args below meth c H locs 0 0 Q (F0 m 40 ls []) := by
        intro k_40
        induction k_40 with
        | zero =>
          intro i_40 x4h40 x6h40 x7h40 trowh40 hb_40 hm_40 hp_40 hx_40 hI_40 H locs hP hD hS ls hl
          exact absurd hm_40 (by omega)
        | succ k_40 ih_40 =>
          intro i_40 x4h40 x6h40 x7h40 trowh40 hb_40 hm_40 hp_40 hx_40 hI_40 H locs hP hD hS ls hl
          have zz_40 := fc_nI (n := i_40) (by omega)
          rw [← hb_40] at zz_40
          refine lv_iload hx hb dX8_simulate_40 (lv_at hl 0 rfl) ?_
          refine lv_iload_n hx hb dX8_simulate_42 rfl (lv_at hl 5 rfl) ?_
          refine lv_icmp_ge (tgt := 150) hx hb dX8_simulate_43 (by decide) (fun c_8 => ?_) (fun c_8 => ?_)
          · refine lv_sipush (v := 10000) hx hb dX8_simulate_150 (by decide) ?_
            refine lv_aload_n hx hb dX8_simulate_153 rfl (lv_at hl 3 rfl) ?_
            refine va_get (D := D) (ci := 8) (v := .ref tr) (C := RX8) (T := TX8) (N := 13) hx hb hts iX8_simulate_X8 hown hK hP 0 rfl rfl 8 (by decide) (hts (.fieldLink RX8 19 "FrameCardModel" "trial" "[I") (by decide +kernel)) (fun _ h9 => h9) rfl dX8_simulate_154 ?_
            refine lv_bipush (v := 6) hx hb dX8_simulate_157 (by decide) ?_
            refine va_iald (D := D) hx hb hK hP 2 0 rfl rfl (vp_in_iff.mpr (by decide)) dX8_simulate_159 ?_
            refine lv_aload_n hx hb dX8_simulate_160 rfl (lv_at hl 3 rfl) ?_
            refine va_get (D := D) (ci := 8) (v := .ref nw) (C := RX8) (T := TX8) (N := 13) hx hb hts iX8_simulate_X8 hown hK hP 0 rfl rfl 7 (by decide) (hts (.fieldLink RX8 16 "FrameCardModel" "now" "[I") (by decide +kernel)) (fun _ h9 => h9) rfl dX8_simulate_161 ?_
            refine lv_bipush (v := 6) hx hb dX8_simulate_164 (by decide) ?_
            refine va_iald (D := D) hx hb hK hP 1 0 rfl rfl (vp_in_iff.mpr (by decide)) dX8_simulate_166 ?_
            refine lv_isub hx hb dX8_simulate_167 ?_
            refine lv_imul hx hb dX8_simulate_168 ?_
            refine lv_bipush (v := 100) hx hb dX8_simulate_169 (by decide) ?_
            refine lv_aload_n hx hb dX8_simulate_171 rfl (lv_at hl 3 rfl) ?_
            refine va_get (D := D) (ci := 8) (v := .ref tr) (C := RX8) (T := TX8) (N := 13) hx hb hts iX8_simulate_X8 hown hK hP 0 rfl rfl 8 (by decide) (hts (.fieldLink RX8 19 "FrameCardModel" "trial" "[I") (by decide +kernel)) (fun _ h9 => h9) rfl dX8_simulate_172 ?_
            refine lv_bipush (v := 7) hx hb dX8_simulate_175 (by decide) ?_
            refine va_iald (D := D) hx hb hK hP 2 0 rfl rfl (vp_in_iff.mpr (by decide)) dX8_simulate_177 ?_
            refine lv_aload_n hx hb dX8_simulate_178 rfl (lv_at hl 3 rfl) ?_
            refine va_get (D := D) (ci := 8) (v := .ref nw) (C := RX8) (T := TX8) (N := 13) hx hb hts iX8_simulate_X8 hown hK hP 0 rfl rfl 7 (by decide) (hts (.fieldLink RX8 16 "FrameCardModel" "now" "[I") (by decide +kernel)) (fun _ h9 => h9) rfl dX8_simulate_179 ?_
            refine lv_bipush (v := 7) hx hb dX8_simulate_182 (by decide) ?_
            refine va_iald (D := D) hx hb hK hP 1 0 rfl rfl (vp_in_iff.mpr (by decide)) dX8_simulate_184 ?_
            refine lv_isub hx hb dX8_simulate_185 ?_
            refine lv_imul hx hb dX8_simulate_186 ?_
            refine lv_iadd hx hb dX8_simulate_187 ?_
            refine lv_aload_n hx hb dX8_simulate_188 rfl (lv_at hl 3 rfl) ?_
            refine va_get (D := D) (ci := 8) (v := .ref tr) (C := RX8) (T := TX8) (N := 13) hx hb hts iX8_simulate_X8 hown hK hP 0 rfl rfl 8 (by decide) (hts (.fieldLink RX8 19 "FrameCardModel" "trial" "[I") (by decide +kernel)) (fun _ h9 => h9) rfl dX8_simulate_189 ?_
            refine lv_bipush (v := 16) hx hb dX8_simulate_192 (by decide) ?_
            refine va_iald (D := D) hx hb hK hP 2 0 rfl rfl (vp_in_iff.mpr (by decide)) dX8_simulate_194 ?_
            refine lv_iadd hx hb dX8_simulate_195 ?_
            exact hret _ _ (((10000 * ((trowh40 (6 : Int32).toNatClampNeg) - (row (6 : Int32).toNatClampNeg))) + (100 * ((trowh40 (7 : Int32).toNatClampNeg) - (row (7 : Int32).toNatClampNeg)))) + (trowh40 (16 : Int32).toNatClampNeg)) (0, trowh40) _ _ (by rw [hI_40, mX8_simulate_L40_s, mX8_simulate_S40]; (try dsimp only); rw [if_pos c_8]; (first | done | rfl)) (hP.sub [0, 1, 2] rfl) (hD.sub [0, 1, 2] (by decide) rfl) hS dX8_simulate_196
          · refine lv_lload hx hb dX8_simulate_46 (lv_at hl 2 rfl) ?_
            refine lv_ldc2 (v := 6364136223846793005) hx hb hown (hts (.constantLong RX8 225 6364136223846793005) (by decide +kernel)) dX8_simulate_48 ?_
            refine lv_lmul hx hb dX8_simulate_51 ?_
            refine lv_ldc2 (v := 1442695040888963407) hx hb hown (hts (.constantLong RX8 227 1442695040888963407) (by decide +kernel)) dX8_simulate_52 ?_
            refine lv_ladd hx hb dX8_simulate_55 ?_
            refine lv_lstore (lv' := [(4, .long ((x4h40 * 6364136223846793005) + 1442695040888963407)), (7, .int x7h40), (6, .int x6h40), (0, .ref mo), (1, .long p0), (3, .int p1)]) hx hb dX8_simulate_56 hl (by decide) rfl (fun ls hl => ?_)
            refine lv_lload hx hb dX8_simulate_58 (lv_at hl 0 rfl) ?_
            refine lv_bipush (v := 33) hx hb dX8_simulate_60 (by decide) ?_
            refine lv_lushr hx hb dX8_simulate_62 rfl ?_
            refine lv_l2i hx hb dX8_simulate_63 rfl ?_
            refine lv_istore (lv' := [(8, .int ((((x4h40 * 6364136223846793005) + 1442695040888963407).toUInt64 >>> ((33 : Int32).toInt64.toUInt64 &&& Int64.toUInt64 63)).toInt64 : Int64).toInt32), (4, .long ((x4h40 * 6364136223846793005) + 1442695040888963407)), (7, .int x7h40), (6, .int x6h40), (0, .ref mo), (1, .long p0), (3, .int p1)]) hx hb dX8_simulate_64 hl (by decide) rfl (fun ls hl => ?_)
            have hr0 := fx_ushr33 ((x4h40 * 6364136223846793005) + 1442695040888963407)
            refine lv_iload hx hb dX8_simulate_66 (lv_at hl 0 rfl) ?_
            refine lv_iconst (v := 4) hx hb dX8_simulate_68 (by decide) ?_
            refine lv_irem hx hb dX8_simulate_69 (by decide) ?_
            refine lv_if_ne (tgt := 84) hx hb dX8_simulate_70 (by decide) (fun c_9 => ?_) (fun c_9 => ?_)
            · refine lv_iload hx hb dX8_simulate_84 (lv_at hl 0 rfl) ?_
              refine lv_iconst (v := 4) hx hb dX8_simulate_86 (by decide) ?_
              refine lv_irem hx hb dX8_simulate_87 (by decide) ?_
              refine lv_iconst (v := 1) hx hb dX8_simulate_88 (by decide) ?_
              refine lv_icmp_ne (tgt := 112) hx hb dX8_simulate_89 (by decide) (fun c_10 => ?_) (fun c_10 => ?_)
              · refine lv_iload hx hb dX8_simulate_112 (lv_at hl 3 rfl) ?_
                refine lv_istore (lv' := [(6, .int x6h40), (8, .int ((((x4h40 * 6364136223846793005) + 1442695040888963407).toUInt64 >>> ((33 : Int32).toInt64.toUInt64 &&& Int64.toUInt64 63)).toInt64 : Int64).toInt32), (4, .long ((x4h40 * 6364136223846793005) + 1442695040888963407)), (7, .int x7h40), (0, .ref mo), (1, .long p0), (3, .int p1)]) hx hb dX8_simulate_114 hl (by decide) rfl (fun ls hl => ?_)
                refine lv_iload hx hb dX8_simulate_116 (lv_at hl 1 rfl) ?_
                refine lv_iconst (v := 4) hx hb dX8_simulate_118 (by decide) ?_
                refine lv_idiv hx hb dX8_simulate_119 (by decide) ?_
                refine lv_iconst (v := 4) hx hb dX8_simulate_120 (by decide) ?_
                refine lv_irem hx hb dX8_simulate_121 (by decide) ?_
                refine lv_iconst (v := 3) hx hb dX8_simulate_122 (by decide) ?_
                refine lv_icmp_ge (tgt := 136) hx hb dX8_simulate_123 (by decide) (fun c_11 => ?_) (fun c_11 => ?_)
                · refine lv_aload_n hx hb dX8_simulate_136 rfl (lv_at hl 4 rfl) ?_
                  refine va_get (D := D) (ci := 8) (v := .ref tr) (C := RX8) (T := TX8) (N := 13) hx hb hts iX8_simulate_X8 hown hK hP 0 rfl rfl 8 (by decide) (hts (.fieldLink RX8 19 "FrameCardModel" "trial" "[I") (by decide +kernel)) (fun _ h9 => h9) rfl dX8_simulate_137 ?_
                  refine fc_goi (isC := [2]) (isR := [0, 1]) (wc := [(tr, .inl (tc 0, 357, .inl trowh40))]) (wr := [(mo, .inr (8, [.int 0, .ref sc, .int ss, .int sp, .int ig, .int lf, .ref rd, .ref nw, .ref tr, .ref di, .int ac, .ref kp, .ref ik])), (nw, .inl (tc 0, 357, .inl row))]) hP hD hS hA rfl rfl (by decide) (by decide) (fc_runS (isC := [2]) (As := [.ref tr]) (rest := []) hx hb hml hown hts hK hE hP hD hS hA rfl (by decide) (c_X8_tick l D tc tr trowh40 _ (by first | exact hs1.mono (by omega) | exact hx_40.mono (by omega))) (cwS 1 hts gX8_simulate_X8_tick rfl rfl rfl hd_X8_tick ⟨Nat.le_of_ble_eq_true rfl, Nat.le_of_ble_eq_true rfl⟩) rfl hl.1 rfl (Nat.le_of_ble_eq_true rfl) dX8_simulate_140 ⟨Nat.le_of_ble_eq_true rfl, Nat.le_of_ble_eq_true rfl⟩) (fun r_12 u_12 H locs hw_12 hP hD hS => ?_)
                  obtain ⟨row_12, rfl⟩ : ∃ z, z = u_12 := ⟨_, rfl⟩
                  try dsimp only at hw_12
                  have hP : va_P D vwCl [(mo, .inr (8, [.int 0, .ref sc, .int ss, .int sp, .int ig, .int lf, .ref rd, .ref nw, .ref tr, .ref di, .int ac, .ref kp, .ref ik])), (nw, .inl (tc 0, 357, .inl row)), (tr, .inl (tc 0, 357, .inl row_12))] H := hP
                  have hD : va_D A [(mo, .inr (8, [.int 0, .ref sc, .int ss, .int sp, .int ig, .int lf, .ref rd, .ref nw, .ref tr, .ref di, .int ac, .ref kp, .ref ik])), (nw, .inl (tc 0, 357, .inl row)), (tr, .inl (tc 0, 357, .inl row_12))] := hD
                  have HT := hw_12
                  refine lv_pop hx hb dX8_simulate_143 rfl ?_
                  refine lv_iinc (v := (x7h40 + 1)) (lv' := [(7, .int (x7h40 + 1)), (6, .int x6h40), (8, .int ((((x4h40 * 6364136223846793005) + 1442695040888963407).toUInt64 >>> ((33 : Int32).toInt64.toUInt64 &&& Int64.toUInt64 63)).toInt64 : Int64).toInt32), (4, .long ((x4h40 * 6364136223846793005) + 1442695040888963407)), (0, .ref mo), (1, .long p0), (3, .int p1)]) hx hb dX8_simulate_144 hl (k := 3) rfl rfl (by decide) rfl (fun ls hl => ?_)
                  refine lv_goto (tgt := 40) hx hb dX8_simulate_147 (by decide) ?_
                  exact ih_40 (i_40 + 1) ((x4h40 * 6364136223846793005) + 1442695040888963407) x6h40 (x7h40 + 1) row_12 (by rw [hb_40]; exact nI_1 _) (by have l_0 : (0 : Int32).toInt = 0 := (by decide); have l_1 : (1 : Int32).toInt = 1 := (by decide); have l_2 : (2 : Int32).toInt = 2 := (by decide); have l_3 : (3 : Int32).toInt = 3 := (by decide); have l_33 : (33 : Int32).toInt = 33 := (by decide); have l_4 : (4 : Int32).toInt = 4 := (by decide); have l_63 : (63 : Int32).toInt = 63 := (by decide); have qc_8 := c_8; (try simp only [fc_le, fc_lt, fc_eq] at qc_8); have qc_9 := c_9; (try simp only [fc_le, fc_lt, fc_eq] at qc_9); have qc_10 := c_10; (try simp only [fc_le, fc_lt, fc_eq] at qc_10); have qc_11 := c_11; (try simp only [fc_le, fc_lt, fc_eq] at qc_11); skip; omega) (by first | exact fx_p1 hr0 | exact fx_p2 hp_40 hr0 | exact hp_40) (by first | exact RX_tick (m := 2 * k_40) (hs1.mono (by omega)) HT | exact RX_tick (m := 2 * k_40) (hx_40.mono (by omega)) HT) (by rw [hI_40, mX8_simulate_L40_s, mX8_simulate_S40]; (try dsimp only); rw [if_neg c_8]; rw [if_neg c_9]; rw [if_neg c_10]; rw [if_pos c_11]; rw [hw_12]; (try dsimp only); (first | done | rfl)) _ _ (hP.sub [0, 1, 2] rfl) (hD.sub [0, 1, 2] (by decide) rfl) hS ls (lv_sub hl [0, 1, 3, 4, 5, 6] rfl)
                · refine lv_aload_n hx hb dX8_simulate_126 rfl (lv_at hl 4 rfl) ?_
                  refine va_get (D := D) (ci := 8) (v := .ref tr) (C := RX8) (T := TX8) (N := 13) hx hb hts iX8_simulate_X8 hown hK hP 0 rfl rfl 8 (by decide) (hts (.fieldLink RX8 19 "FrameCardModel" "trial" "[I") (by decide +kernel)) (fun _ h9 => h9) rfl dX8_simulate_127 ?_
                  refine lv_iload hx hb dX8_simulate_130 (lv_at hl 0 rfl) ?_
                  refine fc_goi (isC := [2]) (isR := [0, 1]) (wc := [(tr, .inl (tc 0, 357, .inl trowh40))]) (wr := [(mo, .inr (8, [.int 0, .ref sc, .int ss, .int sp, .int ig, .int lf, .ref rd, .ref nw, .ref tr, .ref di, .int ac, .ref kp, .ref ik])), (nw, .inl (tc 0, 357, .inl row))]) hP hD hS hA rfl rfl (by decide) (by decide) (fc_runS (isC := [2]) (As := [.ref tr, .int x6h40]) (rest := []) hx hb hml hown hts hK hE hP hD hS hA rfl (by decide) (c_X8_shootIn l D tc tr trowh40 x6h40 _ (RX_K hx_40).2.2) (cwS 2 hts gX8_simulate_X8_shootIn rfl rfl rfl hd_X8_shootIn ⟨Nat.le_of_ble_eq_true rfl, Nat.le_of_ble_eq_true rfl⟩) rfl hl.1 rfl (Nat.le_of_ble_eq_true rfl) dX8_simulate_132 ⟨Nat.le_of_ble_eq_true rfl, Nat.le_of_ble_eq_true rfl⟩) (fun r_13 u_13 H locs hw_13 hP hD hS => ?_)
                  obtain ⟨row_13, rfl⟩ : ∃ z, z = u_13 := ⟨_, rfl⟩
                  try dsimp only at hw_13
                  have hP : va_P D vwCl [(mo, .inr (8, [.int 0, .ref sc, .int ss, .int sp, .int ig, .int lf, .ref rd, .ref nw, .ref tr, .ref di, .int ac, .ref kp, .ref ik])), (nw, .inl (tc 0, 357, .inl row)), (tr, .inl (tc 0, 357, .inl row_13))] H := hP
                  have hD : va_D A [(mo, .inr (8, [.int 0, .ref sc, .int ss, .int sp, .int ig, .int lf, .ref rd, .ref nw, .ref tr, .ref di, .int ac, .ref kp, .ref ik])), (nw, .inl (tc 0, 357, .inl row)), (tr, .inl (tc 0, 357, .inl row_13))] := hD
                  have hs1 := (RX_shoot (m := 2 * k_40 + 1) (hx_40.mono (by omega)) (by first | exact fx_p1 hr0 | exact fx_p2 hp_40 hr0 | exact hp_40).1 hw_13)
                  refine lv_pop hx hb dX8_simulate_135 rfl ?_
                  refine lv_aload_n hx hb dX8_simulate_136 rfl (lv_at hl 4 rfl) ?_
                  refine va_get (D := D) (ci := 8) (v := .ref tr) (C := RX8) (T := TX8) (N := 13) hx hb hts iX8_simulate_X8 hown hK hP 0 rfl rfl 8 (by decide) (hts (.fieldLink RX8 19 "FrameCardModel" "trial" "[I") (by decide +kernel)) (fun _ h9 => h9) rfl dX8_simulate_137 ?_
                  refine fc_goi (isC := [2]) (isR := [0, 1]) (wc := [(tr, .inl (tc 0, 357, .inl row_13))]) (wr := [(mo, .inr (8, [.int 0, .ref sc, .int ss, .int sp, .int ig, .int lf, .ref rd, .ref nw, .ref tr, .ref di, .int ac, .ref kp, .ref ik])), (nw, .inl (tc 0, 357, .inl row))]) hP hD hS hA rfl rfl (by decide) (by decide) (fc_runS (isC := [2]) (As := [.ref tr]) (rest := []) hx hb hml hown hts hK hE hP hD hS hA rfl (by decide) (c_X8_tick l D tc tr row_13 _ (by first | exact hs1.mono (by omega) | exact hx_40.mono (by omega))) (cwS 1 hts gX8_simulate_X8_tick rfl rfl rfl hd_X8_tick ⟨Nat.le_of_ble_eq_true rfl, Nat.le_of_ble_eq_true rfl⟩) rfl hl.1 rfl (Nat.le_of_ble_eq_true rfl) dX8_simulate_140 ⟨Nat.le_of_ble_eq_true rfl, Nat.le_of_ble_eq_true rfl⟩) (fun r_14 u_14 H locs hw_14 hP hD hS => ?_)
                  obtain ⟨row_14, rfl⟩ : ∃ z, z = u_14 := ⟨_, rfl⟩
                  try dsimp only at hw_14
                  have hP : va_P D vwCl [(mo, .inr (8, [.int 0, .ref sc, .int ss, .int sp, .int ig, .int lf, .ref rd, .ref nw, .ref tr, .ref di, .int ac, .ref kp, .ref ik])), (nw, .inl (tc 0, 357, .inl row)), (tr, .inl (tc 0, 357, .inl row_14))] H := hP
                  have hD : va_D A [(mo, .inr (8, [.int 0, .ref sc, .int ss, .int sp, .int ig, .int lf, .ref rd, .ref nw, .ref tr, .ref di, .int ac, .ref kp, .ref ik])), (nw, .inl (tc 0, 357, .inl row)), (tr, .inl (tc 0, 357, .inl row_14))] := hD
                  have HT := hw_14
                  refine lv_pop hx hb dX8_simulate_143 rfl ?_
                  refine lv_iinc (v := (x7h40 + 1)) (lv' := [(7, .int (x7h40 + 1)), (6, .int x6h40), (8, .int ((((x4h40 * 6364136223846793005) + 1442695040888963407).toUInt64 >>> ((33 : Int32).toInt64.toUInt64 &&& Int64.toUInt64 63)).toInt64 : Int64).toInt32), (4, .long ((x4h40 * 6364136223846793005) + 1442695040888963407)), (0, .ref mo), (1, .long p0), (3, .int p1)]) hx hb dX8_simulate_144 hl (k := 3) rfl rfl (by decide) rfl (fun ls hl => ?_)
                  refine lv_goto (tgt := 40) hx hb dX8_simulate_147 (by decide) ?_
                  exact ih_40 (i_40 + 1) ((x4h40 * 6364136223846793005) + 1442695040888963407) x6h40 (x7h40 + 1) row_14 (by rw [hb_40]; exact nI_1 _) (by have l_0 : (0 : Int32).toInt = 0 := (by decide); have l_1 : (1 : Int32).toInt = 1 := (by decide); have l_2 : (2 : Int32).toInt = 2 := (by decide); have l_3 : (3 : Int32).toInt = 3 := (by decide); have l_33 : (33 : Int32).toInt = 33 := (by decide); have l_4 : (4 : Int32).toInt = 4 := (by decide); have l_63 : (63 : Int32).toInt = 63 := (by decide); have qc_8 := c_8; (try simp only [fc_le, fc_lt, fc_eq] at qc_8); have qc_9 := c_9; (try simp only [fc_le, fc_lt, fc_eq] at qc_9); have qc_10 := c_10; (try simp only [fc_le, fc_lt, fc_eq] at qc_10); have qc_11 := c_11; (try simp only [fc_le, fc_lt, fc_eq] at qc_11); skip; omega) (by first | exact fx_p1 hr0 | exact fx_p2 hp_40 hr0 | exact hp_40) (by first | exact RX_tick (m := 2 * k_40) (hs1.mono (by omega)) HT | exact RX_tick (m := 2 * k_40) (hx_40.mono (by omega)) HT) (by rw [hI_40, mX8_simulate_L40_s, mX8_simulate_S40]; (try dsimp only); rw [if_neg c_8]; rw [if_neg c_9]; rw [if_neg c_10]; rw [if_neg c_11]; rw [hw_13]; (try dsimp only); rw [hw_14]; (try dsimp only); (first | done | rfl)) _ _ (hP.sub [0, 1, 2] rfl) (hD.sub [0, 1, 2] (by decide) rfl) hS ls (lv_sub hl [0, 1, 3, 4, 5, 6] rfl)
              · refine lv_iload hx hb dX8_simulate_92 (lv_at hl 3 rfl) ?_
                refine lv_bipush (v := 10) hx hb dX8_simulate_94 (by decide) ?_
                refine lv_idiv hx hb dX8_simulate_96 (by decide) ?_
                refine lv_bipush (v := 10) hx hb dX8_simulate_97 (by decide) ?_
                refine lv_imul hx hb dX8_simulate_99 ?_
                refine lv_iload hx hb dX8_simulate_100 (lv_at hl 0 rfl) ?_
                refine lv_bipush (v := 64) hx hb dX8_simulate_102 (by decide) ?_
                refine lv_idiv hx hb dX8_simulate_104 (by decide) ?_
                refine lv_bipush (v := 10) hx hb dX8_simulate_105 (by decide) ?_
                refine lv_irem hx hb dX8_simulate_107 (by decide) ?_
                refine lv_iadd hx hb dX8_simulate_108 ?_
                refine lv_goto (tgt := 114) hx hb dX8_simulate_109 (by decide) ?_
                refine lv_istore (lv' := [(6, .int (((x6h40 / 10) * 10) + ((((((x4h40 * 6364136223846793005) + 1442695040888963407).toUInt64 >>> ((33 : Int32).toInt64.toUInt64 &&& Int64.toUInt64 63)).toInt64 : Int64).toInt32 / 64) - (((((x4h40 * 6364136223846793005) + 1442695040888963407).toUInt64 >>> ((33 : Int32).toInt64.toUInt64 &&& Int64.toUInt64 63)).toInt64 : Int64).toInt32 / 64) / 10 * 10))), (8, .int ((((x4h40 * 6364136223846793005) + 1442695040888963407).toUInt64 >>> ((33 : Int32).toInt64.toUInt64 &&& Int64.toUInt64 63)).toInt64 : Int64).toInt32), (4, .long ((x4h40 * 6364136223846793005) + 1442695040888963407)), (7, .int x7h40), (0, .ref mo), (1, .long p0), (3, .int p1)]) hx hb dX8_simulate_114 hl (by decide) rfl (fun ls hl => ?_)
                refine lv_iload hx hb dX8_simulate_116 (lv_at hl 1 rfl) ?_
                refine lv_iconst (v := 4) hx hb dX8_simulate_118 (by decide) ?_
                refine lv_idiv hx hb dX8_simulate_119 (by decide) ?_
                refine lv_iconst (v := 4) hx hb dX8_simulate_120 (by decide) ?_
                refine lv_irem hx hb dX8_simulate_121 (by decide) ?_
                refine lv_iconst (v := 3) hx hb dX8_simulate_122 (by decide) ?_
                refine lv_icmp_ge (tgt := 136) hx hb dX8_simulate_123 (by decide) (fun c_15 => ?_) (fun c_15 => ?_)
                · refine lv_aload_n hx hb dX8_simulate_136 rfl (lv_at hl 4 rfl) ?_
                  refine va_get (D := D) (ci := 8) (v := .ref tr) (C := RX8) (T := TX8) (N := 13) hx hb hts iX8_simulate_X8 hown hK hP 0 rfl rfl 8 (by decide) (hts (.fieldLink RX8 19 "FrameCardModel" "trial" "[I") (by decide +kernel)) (fun _ h9 => h9) rfl dX8_simulate_137 ?_
                  refine fc_goi (isC := [2]) (isR := [0, 1]) (wc := [(tr, .inl (tc 0, 357, .inl trowh40))]) (wr := [(mo, .inr (8, [.int 0, .ref sc, .int ss, .int sp, .int ig, .int lf, .ref rd, .ref nw, .ref tr, .ref di, .int ac, .ref kp, .ref ik])), (nw, .inl (tc 0, 357, .inl row))]) hP hD hS hA rfl rfl (by decide) (by decide) (fc_runS (isC := [2]) (As := [.ref tr]) (rest := []) hx hb hml hown hts hK hE hP hD hS hA rfl (by decide) (c_X8_tick l D tc tr trowh40 _ (by first | exact hs1.mono (by omega) | exact hx_40.mono (by omega))) (cwS 1 hts gX8_simulate_X8_tick rfl rfl rfl hd_X8_tick ⟨Nat.le_of_ble_eq_true rfl, Nat.le_of_ble_eq_true rfl⟩) rfl hl.1 rfl (Nat.le_of_ble_eq_true rfl) dX8_simulate_140 ⟨Nat.le_of_ble_eq_true rfl, Nat.le_of_ble_eq_true rfl⟩) (fun r_16 u_16 H locs hw_16 hP hD hS => ?_)
                  obtain ⟨row_16, rfl⟩ : ∃ z, z = u_16 := ⟨_, rfl⟩
                  try dsimp only at hw_16
                  have hP : va_P D vwCl [(mo, .inr (8, [.int 0, .ref sc, .int ss, .int sp, .int ig, .int lf, .ref rd, .ref nw, .ref tr, .ref di, .int ac, .ref kp, .ref ik])), (nw, .inl (tc 0, 357, .inl row)), (tr, .inl (tc 0, 357, .inl row_16))] H := hP
                  have hD : va_D A [(mo, .inr (8, [.int 0, .ref sc, .int ss, .int sp, .int ig, .int lf, .ref rd, .ref nw, .ref tr, .ref di, .int ac, .ref kp, .ref ik])), (nw, .inl (tc 0, 357, .inl row)), (tr, .inl (tc 0, 357, .inl row_16))] := hD
                  have HT := hw_16
                  refine lv_pop hx hb dX8_simulate_143 rfl ?_
                  refine lv_iinc (v := (x7h40 + 1)) (lv' := [(7, .int (x7h40 + 1)), (6, .int (((x6h40 / 10) * 10) + ((((((x4h40 * 6364136223846793005) + 1442695040888963407).toUInt64 >>> ((33 : Int32).toInt64.toUInt64 &&& Int64.toUInt64 63)).toInt64 : Int64).toInt32 / 64) - (((((x4h40 * 6364136223846793005) + 1442695040888963407).toUInt64 >>> ((33 : Int32).toInt64.toUInt64 &&& Int64.toUInt64 63)).toInt64 : Int64).toInt32 / 64) / 10 * 10))), (8, .int ((((x4h40 * 6364136223846793005) + 1442695040888963407).toUInt64 >>> ((33 : Int32).toInt64.toUInt64 &&& Int64.toUInt64 63)).toInt64 : Int64).toInt32), (4, .long ((x4h40 * 6364136223846793005) + 1442695040888963407)), (0, .ref mo), (1, .long p0), (3, .int p1)]) hx hb dX8_simulate_144 hl (k := 3) rfl rfl (by decide) rfl (fun ls hl => ?_)
                  refine lv_goto (tgt := 40) hx hb dX8_simulate_147 (by decide) ?_
                  exact ih_40 (i_40 + 1) ((x4h40 * 6364136223846793005) + 1442695040888963407) (((x6h40 / 10) * 10) + ((((((x4h40 * 6364136223846793005) + 1442695040888963407).toUInt64 >>> ((33 : Int32).toInt64.toUInt64 &&& Int64.toUInt64 63)).toInt64 : Int64).toInt32 / 64) - (((((x4h40 * 6364136223846793005) + 1442695040888963407).toUInt64 >>> ((33 : Int32).toInt64.toUInt64 &&& Int64.toUInt64 63)).toInt64 : Int64).toInt32 / 64) / 10 * 10)) (x7h40 + 1) row_16 (by rw [hb_40]; exact nI_1 _) (by have l_0 : (0 : Int32).toInt = 0 := (by decide); have l_1 : (1 : Int32).toInt = 1 := (by decide); have l_2 : (2 : Int32).toInt = 2 := (by decide); have l_3 : (3 : Int32).toInt = 3 := (by decide); have l_33 : (33 : Int32).toInt = 33 := (by decide); have l_4 : (4 : Int32).toInt = 4 := (by decide); have l_63 : (63 : Int32).toInt = 63 := (by decide); have qc_8 := c_8; (try simp only [fc_le, fc_lt, fc_eq] at qc_8); have qc_9 := c_9; (try simp only [fc_le, fc_lt, fc_eq] at qc_9); have qc_10 := c_10; (try simp only [fc_le, fc_lt, fc_eq] at qc_10); have qc_15 := c_15; (try simp only [fc_le, fc_lt, fc_eq] at qc_15); skip; omega) (by first | exact fx_p1 hr0 | exact fx_p2 hp_40 hr0 | exact hp_40) (by first | exact RX_tick (m := 2 * k_40) (hs1.mono (by omega)) HT | exact RX_tick (m := 2 * k_40) (hx_40.mono (by omega)) HT) (by rw [hI_40, mX8_simulate_L40_s, mX8_simulate_S40]; (try dsimp only); rw [if_neg c_8]; rw [if_neg c_9]; rw [if_pos c_10]; rw [if_pos c_15]; rw [hw_16]; (try dsimp only); (first | done | rfl)) _ _ (hP.sub [0, 1, 2] rfl) (hD.sub [0, 1, 2] (by decide) rfl) hS ls (lv_sub hl [0, 1, 3, 4, 5, 6] rfl)
                · refine lv_aload_n hx hb dX8_simulate_126 rfl (lv_at hl 4 rfl) ?_
                  refine va_get (D := D) (ci := 8) (v := .ref tr) (C := RX8) (T := TX8) (N := 13) hx hb hts iX8_simulate_X8 hown hK hP 0 rfl rfl 8 (by decide) (hts (.fieldLink RX8 19 "FrameCardModel" "trial" "[I") (by decide +kernel)) (fun _ h9 => h9) rfl dX8_simulate_127 ?_
                  refine lv_iload hx hb dX8_simulate_130 (lv_at hl 0 rfl) ?_
                  refine fc_goi (isC := [2]) (isR := [0, 1]) (wc := [(tr, .inl (tc 0, 357, .inl trowh40))]) (wr := [(mo, .inr (8, [.int 0, .ref sc, .int ss, .int sp, .int ig, .int lf, .ref rd, .ref nw, .ref tr, .ref di, .int ac, .ref kp, .ref ik])), (nw, .inl (tc 0, 357, .inl row))]) hP hD hS hA rfl rfl (by decide) (by decide) (fc_runS (isC := [2]) (As := [.ref tr, .int (((x6h40 / 10) * 10) + ((((((x4h40 * 6364136223846793005) + 1442695040888963407).toUInt64 >>> ((33 : Int32).toInt64.toUInt64 &&& Int64.toUInt64 63)).toInt64 : Int64).toInt32 / 64) - (((((x4h40 * 6364136223846793005) + 1442695040888963407).toUInt64 >>> ((33 : Int32).toInt64.toUInt64 &&& Int64.toUInt64 63)).toInt64 : Int64).toInt32 / 64) / 10 * 10))]) (rest := []) hx hb hml hown hts hK hE hP hD hS hA rfl (by decide) (c_X8_shootIn l D tc tr trowh40 (((x6h40 / 10) * 10) + ((((((x4h40 * 6364136223846793005) + 1442695040888963407).toUInt64 >>> ((33 : Int32).toInt64.toUInt64 &&& Int64.toUInt64 63)).toInt64 : Int64).toInt32 / 64) - (((((x4h40 * 6364136223846793005) + 1442695040888963407).toUInt64 >>> ((33 : Int32).toInt64.toUInt64 &&& Int64.toUInt64 63)).toInt64 : Int64).toInt32 / 64) / 10 * 10)) _ (RX_K hx_40).2.2) (cwS 2 hts gX8_simulate_X8_shootIn rfl rfl rfl hd_X8_shootIn ⟨Nat.le_of_ble_eq_true rfl, Nat.le_of_ble_eq_true rfl⟩) rfl hl.1 rfl (Nat.le_of_ble_eq_true rfl) dX8_simulate_132 ⟨Nat.le_of_ble_eq_true rfl, Nat.le_of_ble_eq_true rfl⟩) (fun r_17 u_17 H locs hw_17 hP hD hS => ?_)
                  obtain ⟨row_17, rfl⟩ : ∃ z, z = u_17 := ⟨_, rfl⟩
                  try dsimp only at hw_17
                  have hP : va_P D vwCl [(mo, .inr (8, [.int 0, .ref sc, .int ss, .int sp, .int ig, .int lf, .ref rd, .ref nw, .ref tr, .ref di, .int ac, .ref kp, .ref ik])), (nw, .inl (tc 0, 357, .inl row)), (tr, .inl (tc 0, 357, .inl row_17))] H := hP
                  have hD : va_D A [(mo, .inr (8, [.int 0, .ref sc, .int ss, .int sp, .int ig, .int lf, .ref rd, .ref nw, .ref tr, .ref di, .int ac, .ref kp, .ref ik])), (nw, .inl (tc 0, 357, .inl row)), (tr, .inl (tc 0, 357, .inl row_17))] := hD
                  have hs1 := (RX_shoot (m := 2 * k_40 + 1) (hx_40.mono (by omega)) (by first | exact fx_p1 hr0 | exact fx_p2 hp_40 hr0 | exact hp_40).1 hw_17)
                  refine lv_pop hx hb dX8_simulate_135 rfl ?_
                  refine lv_aload_n hx hb dX8_simulate_136 rfl (lv_at hl 4 rfl) ?_
                  refine va_get (D := D) (ci := 8) (v := .ref tr) (C := RX8) (T := TX8) (N := 13) hx hb hts iX8_simulate_X8 hown hK hP 0 rfl rfl 8 (by decide) (hts (.fieldLink RX8 19 "FrameCardModel" "trial" "[I") (by decide +kernel)) (fun _ h9 => h9) rfl dX8_simulate_137 ?_
                  refine fc_goi (isC := [2]) (isR := [0, 1]) (wc := [(tr, .inl (tc 0, 357, .inl row_17))]) (wr := [(mo, .inr (8, [.int 0, .ref sc, .int ss, .int sp, .int ig, .int lf, .ref rd, .ref nw, .ref tr, .ref di, .int ac, .ref kp, .ref ik])), (nw, .inl (tc 0, 357, .inl row))]) hP hD hS hA rfl rfl (by decide) (by decide) (fc_runS (isC := [2]) (As := [.ref tr]) (rest := []) hx hb hml hown hts hK hE hP hD hS hA rfl (by decide) (c_X8_tick l D tc tr row_17 _ (by first | exact hs1.mono (by omega) | exact hx_40.mono (by omega))) (cwS 1 hts gX8_simulate_X8_tick rfl rfl rfl hd_X8_tick ⟨Nat.le_of_ble_eq_true rfl, Nat.le_of_ble_eq_true rfl⟩) rfl hl.1 rfl (Nat.le_of_ble_eq_true rfl) dX8_simulate_140 ⟨Nat.le_of_ble_eq_true rfl, Nat.le_of_ble_eq_true rfl⟩) (fun r_18 u_18 H locs hw_18 hP hD hS => ?_)
                  obtain ⟨row_18, rfl⟩ : ∃ z, z = u_18 := ⟨_, rfl⟩
                  try dsimp only at hw_18
                  have hP : va_P D vwCl [(mo, .inr (8, [.int 0, .ref sc, .int ss, .int sp, .int ig, .int lf, .ref rd, .ref nw, .ref tr, .ref di, .int ac, .ref kp, .ref ik])), (nw, .inl (tc 0, 357, .inl row)), (tr, .inl (tc 0, 357, .inl row_18))] H := hP
                  have hD : va_D A [(mo, .inr (8, [.int 0, .ref sc, .int ss, .int sp, .int ig, .int lf, .ref rd, .ref nw, .ref tr, .ref di, .int ac, .ref kp, .ref ik])), (nw, .inl (tc 0, 357, .inl row)), (tr, .inl (tc 0, 357, .inl row_18))] := hD
                  have HT := hw_18
                  refine lv_pop hx hb dX8_simulate_143 rfl ?_
                  refine lv_iinc (v := (x7h40 + 1)) (lv' := [(7, .int (x7h40 + 1)), (6, .int (((x6h40 / 10) * 10) + ((((((x4h40 * 6364136223846793005) + 1442695040888963407).toUInt64 >>> ((33 : Int32).toInt64.toUInt64 &&& Int64.toUInt64 63)).toInt64 : Int64).toInt32 / 64) - (((((x4h40 * 6364136223846793005) + 1442695040888963407).toUInt64 >>> ((33 : Int32).toInt64.toUInt64 &&& Int64.toUInt64 63)).toInt64 : Int64).toInt32 / 64) / 10 * 10))), (8, .int ((((x4h40 * 6364136223846793005) + 1442695040888963407).toUInt64 >>> ((33 : Int32).toInt64.toUInt64 &&& Int64.toUInt64 63)).toInt64 : Int64).toInt32), (4, .long ((x4h40 * 6364136223846793005) + 1442695040888963407)), (0, .ref mo), (1, .long p0), (3, .int p1)]) hx hb dX8_simulate_144 hl (k := 3) rfl rfl (by decide) rfl (fun ls hl => ?_)
                  refine lv_goto (tgt := 40) hx hb dX8_simulate_147 (by decide) ?_
                  exact ih_40 (i_40 + 1) ((x4h40 * 6364136223846793005) + 1442695040888963407) (((x6h40 / 10) * 10) + ((((((x4h40 * 6364136223846793005) + 1442695040888963407).toUInt64 >>> ((33 : Int32).toInt64.toUInt64 &&& Int64.toUInt64 63)).toInt64 : Int64).toInt32 / 64) - (((((x4h40 * 6364136223846793005) + 1442695040888963407).toUInt64 >>> ((33 : Int32).toInt64.toUInt64 &&& Int64.toUInt64 63)).toInt64 : Int64).toInt32 / 64) / 10 * 10)) (x7h40 + 1) row_18 (by rw [hb_40]; exact nI_1 _) (by have l_0 : (0 : Int32).toInt = 0 := (by decide); have l_1 : (1 : Int32).toInt = 1 := (by decide); have l_2 : (2 : Int32).toInt = 2 := (by decide); have l_3 : (3 : Int32).toInt = 3 := (by decide); have l_33 : (33 : Int32).toInt = 33 := (by decide); have l_4 : (4 : Int32).toInt = 4 := (by decide); have l_63 : (63 : Int32).toInt = 63 := (by decide); have qc_8 := c_8; (try simp only [fc_le, fc_lt, fc_eq] at qc_8); have qc_9 := c_9; (try simp only [fc_le, fc_lt, fc_eq] at qc_9); have qc_10 := c_10; (try simp only [fc_le, fc_lt, fc_eq] at qc_10); have qc_15 := c_15; (try simp only [fc_le, fc_lt, fc_eq] at qc_15); skip; omega) (by first | exact fx_p1 hr0 | exact fx_p2 hp_40 hr0 | exact hp_40) (by first | exact RX_tick (m := 2 * k_40) (hs1.mono (by omega)) HT | exact RX_tick (m := 2 * k_40) (hx_40.mono (by omega)) HT) (by rw [hI_40, mX8_simulate_L40_s, mX8_simulate_S40]; (try dsimp only); rw [if_neg c_8]; rw [if_neg c_9]; rw [if_pos c_10]; rw [if_neg c_15]; rw [hw_17]; (try dsimp only); rw [hw_18]; (try dsimp only); (first | done | rfl)) _ _ (hP.sub [0, 1, 2] rfl) (hD.sub [0, 1, 2] (by decide) rfl) hS ls (lv_sub hl [0, 1, 3, 4, 5, 6] rfl)
            · refine lv_iload hx hb dX8_simulate_73 (lv_at hl 0 rfl) ?_
              refine lv_bipush (v := 64) hx hb dX8_simulate_75 (by decide) ?_
              refine lv_idiv hx hb dX8_simulate_77 (by decide) ?_
              refine lv_ldc (v := 1000000) hx hb hown (hts (.constant RX8 199 1000000) (by decide +kernel)) dX8_simulate_78 ?_
              refine lv_irem hx hb dX8_simulate_80 (by decide) ?_
              refine lv_goto (tgt := 114) hx hb dX8_simulate_81 (by decide) ?_
              refine lv_istore (lv' := [(6, .int ((((((x4h40 * 6364136223846793005) + 1442695040888963407).toUInt64 >>> ((33 : Int32).toInt64.toUInt64 &&& Int64.toUInt64 63)).toInt64 : Int64).toInt32 / 64) - (((((x4h40 * 6364136223846793005) + 1442695040888963407).toUInt64 >>> ((33 : Int32).toInt64.toUInt64 &&& Int64.toUInt64 63)).toInt64 : Int64).toInt32 / 64) / 1000000 * 1000000)), (8, .int ((((x4h40 * 6364136223846793005) + 1442695040888963407).toUInt64 >>> ((33 : Int32).toInt64.toUInt64 &&& Int64.toUInt64 63)).toInt64 : Int64).toInt32), (4, .long ((x4h40 * 6364136223846793005) + 1442695040888963407)), (7, .int x7h40), (0, .ref mo), (1, .long p0), (3, .int p1)]) hx hb dX8_simulate_114 hl (by decide) rfl (fun ls hl => ?_)
              refine lv_iload hx hb dX8_simulate_116 (lv_at hl 1 rfl) ?_
              refine lv_iconst (v := 4) hx hb dX8_simulate_118 (by decide) ?_
              refine lv_idiv hx hb dX8_simulate_119 (by decide) ?_
              refine lv_iconst (v := 4) hx hb dX8_simulate_120 (by decide) ?_
              refine lv_irem hx hb dX8_simulate_121 (by decide) ?_
              refine lv_iconst (v := 3) hx hb dX8_simulate_122 (by decide) ?_
              refine lv_icmp_ge (tgt := 136) hx hb dX8_simulate_123 (by decide) (fun c_19 => ?_) (fun c_19 => ?_)
              · refine lv_aload_n hx hb dX8_simulate_136 rfl (lv_at hl 4 rfl) ?_
                refine va_get (D := D) (ci := 8) (v := .ref tr) (C := RX8) (T := TX8) (N := 13) hx hb hts iX8_simulate_X8 hown hK hP 0 rfl rfl 8 (by decide) (hts (.fieldLink RX8 19 "FrameCardModel" "trial" "[I") (by decide +kernel)) (fun _ h9 => h9) rfl dX8_simulate_137 ?_
                refine fc_goi (isC := [2]) (isR := [0, 1]) (wc := [(tr, .inl (tc 0, 357, .inl trowh40))]) (wr := [(mo, .inr (8, [.int 0, .ref sc, .int ss, .int sp, .int ig, .int lf, .ref rd, .ref nw, .ref tr, .ref di, .int ac, .ref kp, .ref ik])), (nw, .inl (tc 0, 357, .inl row))]) hP hD hS hA rfl rfl (by decide) (by decide) (fc_runS (isC := [2]) (As := [.ref tr]) (rest := []) hx hb hml hown hts hK hE hP hD hS hA rfl (by decide) (c_X8_tick l D tc tr trowh40 _ (by first | exact hs1.mono (by omega) | exact hx_40.mono (by omega))) (cwS 1 hts gX8_simulate_X8_tick rfl rfl rfl hd_X8_tick ⟨Nat.le_of_ble_eq_true rfl, Nat.le_of_ble_eq_true rfl⟩) rfl hl.1 rfl (Nat.le_of_ble_eq_true rfl) dX8_simulate_140 ⟨Nat.le_of_ble_eq_true rfl, Nat.le_of_ble_eq_true rfl⟩) (fun r_20 u_20 H locs hw_20 hP hD hS => ?_)
                obtain ⟨row_20, rfl⟩ : ∃ z, z = u_20 := ⟨_, rfl⟩
                try dsimp only at hw_20
                have hP : va_P D vwCl [(mo, .inr (8, [.int 0, .ref sc, .int ss, .int sp, .int ig, .int lf, .ref rd, .ref nw, .ref tr, .ref di, .int ac, .ref kp, .ref ik])), (nw, .inl (tc 0, 357, .inl row)), (tr, .inl (tc 0, 357, .inl row_20))] H := hP
                have hD : va_D A [(mo, .inr (8, [.int 0, .ref sc, .int ss, .int sp, .int ig, .int lf, .ref rd, .ref nw, .ref tr, .ref di, .int ac, .ref kp, .ref ik])), (nw, .inl (tc 0, 357, .inl row)), (tr, .inl (tc 0, 357, .inl row_20))] := hD
                have HT := hw_20
                refine lv_pop hx hb dX8_simulate_143 rfl ?_
                refine lv_iinc (v := (x7h40 + 1)) (lv' := [(7, .int (x7h40 + 1)), (6, .int ((((((x4h40 * 6364136223846793005) + 1442695040888963407).toUInt64 >>> ((33 : Int32).toInt64.toUInt64 &&& Int64.toUInt64 63)).toInt64 : Int64).toInt32 / 64) - (((((x4h40 * 6364136223846793005) + 1442695040888963407).toUInt64 >>> ((33 : Int32).toInt64.toUInt64 &&& Int64.toUInt64 63)).toInt64 : Int64).toInt32 / 64) / 1000000 * 1000000)), (8, .int ((((x4h40 * 6364136223846793005) + 1442695040888963407).toUInt64 >>> ((33 : Int32).toInt64.toUInt64 &&& Int64.toUInt64 63)).toInt64 : Int64).toInt32), (4, .long ((x4h40 * 6364136223846793005) + 1442695040888963407)), (0, .ref mo), (1, .long p0), (3, .int p1)]) hx hb dX8_simulate_144 hl (k := 3) rfl rfl (by decide) rfl (fun ls hl => ?_)
                refine lv_goto (tgt := 40) hx hb dX8_simulate_147 (by decide) ?_
                exact ih_40 (i_40 + 1) ((x4h40 * 6364136223846793005) + 1442695040888963407) ((((((x4h40 * 6364136223846793005) + 1442695040888963407).toUInt64 >>> ((33 : Int32).toInt64.toUInt64 &&& Int64.toUInt64 63)).toInt64 : Int64).toInt32 / 64) - (((((x4h40 * 6364136223846793005) + 1442695040888963407).toUInt64 >>> ((33 : Int32).toInt64.toUInt64 &&& Int64.toUInt64 63)).toInt64 : Int64).toInt32 / 64) / 1000000 * 1000000) (x7h40 + 1) row_20 (by rw [hb_40]; exact nI_1 _) (by have l_0 : (0 : Int32).toInt = 0 := (by decide); have l_1 : (1 : Int32).toInt = 1 := (by decide); have l_2 : (2 : Int32).toInt = 2 := (by decide); have l_3 : (3 : Int32).toInt = 3 := (by decide); have l_33 : (33 : Int32).toInt = 33 := (by decide); have l_4 : (4 : Int32).toInt = 4 := (by decide); have l_63 : (63 : Int32).toInt = 63 := (by decide); have qc_8 := c_8; (try simp only [fc_le, fc_lt, fc_eq] at qc_8); have qc_9 := c_9; (try simp only [fc_le, fc_lt, fc_eq] at qc_9); have qc_19 := c_19; (try simp only [fc_le, fc_lt, fc_eq] at qc_19); skip; omega) (by first | exact fx_p1 hr0 | exact fx_p2 hp_40 hr0 | exact hp_40) (by first | exact RX_tick (m := 2 * k_40) (hs1.mono (by omega)) HT | exact RX_tick (m := 2 * k_40) (hx_40.mono (by omega)) HT) (by rw [hI_40, mX8_simulate_L40_s, mX8_simulate_S40]; (try dsimp only); rw [if_neg c_8]; rw [if_pos c_9]; rw [if_pos c_19]; rw [hw_20]; (try dsimp only); (first | done | rfl)) _ _ (hP.sub [0, 1, 2] rfl) (hD.sub [0, 1, 2] (by decide) rfl) hS ls (lv_sub hl [0, 1, 3, 4, 5, 6] rfl)
              · refine lv_aload_n hx hb dX8_simulate_126 rfl (lv_at hl 4 rfl) ?_
                refine va_get (D := D) (ci := 8) (v := .ref tr) (C := RX8) (T := TX8) (N := 13) hx hb hts iX8_simulate_X8 hown hK hP 0 rfl rfl 8 (by decide) (hts (.fieldLink RX8 19 "FrameCardModel" "trial" "[I") (by decide +kernel)) (fun _ h9 => h9) rfl dX8_simulate_127 ?_
                refine lv_iload hx hb dX8_simulate_130 (lv_at hl 0 rfl) ?_
                refine fc_goi (isC := [2]) (isR := [0, 1]) (wc := [(tr, .inl (tc 0, 357, .inl trowh40))]) (wr := [(mo, .inr (8, [.int 0, .ref sc, .int ss, .int sp, .int ig, .int lf, .ref rd, .ref nw, .ref tr, .ref di, .int ac, .ref kp, .ref ik])), (nw, .inl (tc 0, 357, .inl row))]) hP hD hS hA rfl rfl (by decide) (by decide) (fc_runS (isC := [2]) (As := [.ref tr, .int ((((((x4h40 * 6364136223846793005) + 1442695040888963407).toUInt64 >>> ((33 : Int32).toInt64.toUInt64 &&& Int64.toUInt64 63)).toInt64 : Int64).toInt32 / 64) - (((((x4h40 * 6364136223846793005) + 1442695040888963407).toUInt64 >>> ((33 : Int32).toInt64.toUInt64 &&& Int64.toUInt64 63)).toInt64 : Int64).toInt32 / 64) / 1000000 * 1000000)]) (rest := []) hx hb hml hown hts hK hE hP hD hS hA rfl (by decide) (c_X8_shootIn l D tc tr trowh40 ((((((x4h40 * 6364136223846793005) + 1442695040888963407).toUInt64 >>> ((33 : Int32).toInt64.toUInt64 &&& Int64.toUInt64 63)).toInt64 : Int64).toInt32 / 64) - (((((x4h40 * 6364136223846793005) + 1442695040888963407).toUInt64 >>> ((33 : Int32).toInt64.toUInt64 &&& Int64.toUInt64 63)).toInt64 : Int64).toInt32 / 64) / 1000000 * 1000000) _ (RX_K hx_40).2.2) (cwS 2 hts gX8_simulate_X8_shootIn rfl rfl rfl hd_X8_shootIn ⟨Nat.le_of_ble_eq_true rfl, Nat.le_of_ble_eq_true rfl⟩) rfl hl.1 rfl (Nat.le_of_ble_eq_true rfl) dX8_simulate_132 ⟨Nat.le_of_ble_eq_true rfl, Nat.le_of_ble_eq_true rfl⟩) (fun r_21 u_21 H locs hw_21 hP hD hS => ?_)
                obtain ⟨row_21, rfl⟩ : ∃ z, z = u_21 := ⟨_, rfl⟩
                try dsimp only at hw_21
                have hP : va_P D vwCl [(mo, .inr (8, [.int 0, .ref sc, .int ss, .int sp, .int ig, .int lf, .ref rd, .ref nw, .ref tr, .ref di, .int ac, .ref kp, .ref ik])), (nw, .inl (tc 0, 357, .inl row)), (tr, .inl (tc 0, 357, .inl row_21))] H := hP
                have hD : va_D A [(mo, .inr (8, [.int 0, .ref sc, .int ss, .int sp, .int ig, .int lf, .ref rd, .ref nw, .ref tr, .ref di, .int ac, .ref kp, .ref ik])), (nw, .inl (tc 0, 357, .inl row)), (tr, .inl (tc 0, 357, .inl row_21))] := hD
                have hs1 := (RX_shoot (m := 2 * k_40 + 1) (hx_40.mono (by omega)) (by first | exact fx_p1 hr0 | exact fx_p2 hp_40 hr0 | exact hp_40).1 hw_21)
                refine lv_pop hx hb dX8_simulate_135 rfl ?_
                refine lv_aload_n hx hb dX8_simulate_136 rfl (lv_at hl 4 rfl) ?_
                refine va_get (D := D) (ci := 8) (v := .ref tr) (C := RX8) (T := TX8) (N := 13) hx hb hts iX8_simulate_X8 hown hK hP 0 rfl rfl 8 (by decide) (hts (.fieldLink RX8 19 "FrameCardModel" "trial" "[I") (by decide +kernel)) (fun _ h9 => h9) rfl dX8_simulate_137 ?_
                refine fc_goi (isC := [2]) (isR := [0, 1]) (wc := [(tr, .inl (tc 0, 357, .inl row_21))]) (wr := [(mo, .inr (8, [.int 0, .ref sc, .int ss, .int sp, .int ig, .int lf, .ref rd, .ref nw, .ref tr, .ref di, .int ac, .ref kp, .ref ik])), (nw, .inl (tc 0, 357, .inl row))]) hP hD hS hA rfl rfl (by decide) (by decide) (fc_runS (isC := [2]) (As := [.ref tr]) (rest := []) hx hb hml hown hts hK hE hP hD hS hA rfl (by decide) (c_X8_tick l D tc tr row_21 _ (by first | exact hs1.mono (by omega) | exact hx_40.mono (by omega))) (cwS 1 hts gX8_simulate_X8_tick rfl rfl rfl hd_X8_tick ⟨Nat.le_of_ble_eq_true rfl, Nat.le_of_ble_eq_true rfl⟩) rfl hl.1 rfl (Nat.le_of_ble_eq_true rfl) dX8_simulate_140 ⟨Nat.le_of_ble_eq_true rfl, Nat.le_of_ble_eq_true rfl⟩) (fun r_22 u_22 H locs hw_22 hP hD hS => ?_)
                obtain ⟨row_22, rfl⟩ : ∃ z, z = u_22 := ⟨_, rfl⟩
                try dsimp only at hw_22
                have hP : va_P D vwCl [(mo, .inr (8, [.int 0, .ref sc, .int ss, .int sp, .int ig, .int lf, .ref rd, .ref nw, .ref tr, .ref di, .int ac, .ref kp, .ref ik])), (nw, .inl (tc 0, 357, .inl row)), (tr, .inl (tc 0, 357, .inl row_22))] H := hP
                have hD : va_D A [(mo, .inr (8, [.int 0, .ref sc, .int ss, .int sp, .int ig, .int lf, .ref rd, .ref nw, .ref tr, .ref di, .int ac, .ref kp, .ref ik])), (nw, .inl (tc 0, 357, .inl row)), (tr, .inl (tc 0, 357, .inl row_22))] := hD
                have HT := hw_22
                refine lv_pop hx hb dX8_simulate_143 rfl ?_
                refine lv_iinc (v := (x7h40 + 1)) (lv' := [(7, .int (x7h40 + 1)), (6, .int ((((((x4h40 * 6364136223846793005) + 1442695040888963407).toUInt64 >>> ((33 : Int32).toInt64.toUInt64 &&& Int64.toUInt64 63)).toInt64 : Int64).toInt32 / 64) - (((((x4h40 * 6364136223846793005) + 1442695040888963407).toUInt64 >>> ((33 : Int32).toInt64.toUInt64 &&& Int64.toUInt64 63)).toInt64 : Int64).toInt32 / 64) / 1000000 * 1000000)), (8, .int ((((x4h40 * 6364136223846793005) + 1442695040888963407).toUInt64 >>> ((33 : Int32).toInt64.toUInt64 &&& Int64.toUInt64 63)).toInt64 : Int64).toInt32), (4, .long ((x4h40 * 6364136223846793005) + 1442695040888963407)), (0, .ref mo), (1, .long p0), (3, .int p1)]) hx hb dX8_simulate_144 hl (k := 3) rfl rfl (by decide) rfl (fun ls hl => ?_)
                refine lv_goto (tgt := 40) hx hb dX8_simulate_147 (by decide) ?_
                exact ih_40 (i_40 + 1) ((x4h40 * 6364136223846793005) + 1442695040888963407) ((((((x4h40 * 6364136223846793005) + 1442695040888963407).toUInt64 >>> ((33 : Int32).toInt64.toUInt64 &&& Int64.toUInt64 63)).toInt64 : Int64).toInt32 / 64) - (((((x4h40 * 6364136223846793005) + 1442695040888963407).toUInt64 >>> ((33 : Int32).toInt64.toUInt64 &&& Int64.toUInt64 63)).toInt64 : Int64).toInt32 / 64) / 1000000 * 1000000) (x7h40 + 1) row_22 (by rw [hb_40]; exact nI_1 _) (by have l_0 : (0 : Int32).toInt = 0 := (by decide); have l_1 : (1 : Int32).toInt = 1 := (by decide); have l_2 : (2 : Int32).toInt = 2 := (by decide); have l_3 : (3 : Int32).toInt = 3 := (by decide); have l_33 : (33 : Int32).toInt = 33 := (by decide); have l_4 : (4 : Int32).toInt = 4 := (by decide); have l_63 : (63 : Int32).toInt = 63 := (by decide); have qc_8 := c_8; (try simp only [fc_le, fc_lt, fc_eq] at qc_8); have qc_9 := c_9; (try simp only [fc_le, fc_lt, fc_eq] at qc_9); have qc_19 := c_19; (try simp only [fc_le, fc_lt, fc_eq] at qc_19); skip; omega) (by first | exact fx_p1 hr0 | exact fx_p2 hp_40 hr0 | exact hp_40) (by first | exact RX_tick (m := 2 * k_40) (hs1.mono (by omega)) HT | exact RX_tick (m := 2 * k_40) (hx_40.mono (by omega)) HT) (by rw [hI_40, mX8_simulate_L40_s, mX8_simulate_S40]; (try dsimp only); rw [if_neg c_8]; rw [if_pos c_9]; rw [if_neg c_19]; rw [hw_21]; (try dsimp only); rw [hw_22]; (try dsimp only); (first | done | rfl)) _ _ (hP.sub [0, 1, 2] rfl) (hD.sub [0, 1, 2] (by decide) rfl) hS ls (lv_sub hl [0, 1, 3, 4, 5, 6] rfl)
      exact loop_40 100 0 p0 123456 0 trow_7 rfl (by omega) (by decide) (hx1.mono (by omega)) (by rw [mX8_simulate]; (try dsimp only); rw [hw_1]; (try dsimp only); rw [if_neg c_2]; rw [hw_7]; (try dsimp only); (first | done | rfl)) _ _ (hP.sub [0, 1, 2] rfl) (hD.sub [0, 1, 2] (by decide) rfl) hS ls (lv_sub hl [0, 1, 2, 3, 4, 5] rfl)
    · exact absurd (by decide) c_6
--# X8_save
noncomputable def mX8_save (rf : Int32) (ss : Int32) (sp : Int32) (ig : Int32) (lf : Int32) (ac : Int32) (row : Nat → Int32) (kpt : Nat → Int32) (isk : Nat → Int32) (p0 : Int32) : Int32 × Int32 × (Nat → Int32) × (Nat → Int32) :=
  let r_1 := mX8_in p0.toInt64 0 1
  if r_1 = 0 then
    (0, 1, kpt, isk)
  else
    let g_7 := mX8_copy 357 row 714 kpt 0 (357 * p0) 357
    ((row (16 : Int32).toNatClampNeg), 0, g_7, (upd isk p0.toNatClampNeg (vp_nar .boolean 1)))
set_option maxRecDepth 20000 in
theorem iX8_save_X8 : ∀ w ∈ wsX80, w ∈ wsX8_save := by decide +kernel
abbrev rmX8_save : Room := { frames := 1, cells := 0, slots := 0, locals := 25 }
set_option maxHeartbeats 4000000 in
set_option maxRecDepth 100000 in
theorem c_X8_save (l : Launch) (D : va_G) (tc : Nat → ClassId) (mo : Nat) (sc : Nat) (rd : Nat) (nw : Nat) (tr : Nat) (di : Nat) (kp : Nat) (ik : Nat) (rf : Int32) (ss : Int32) (sp : Int32) (ig : Int32) (lf : Int32) (ac : Int32) (row : Nat → Int32) (kpt : Nat → Int32) (isk : Nat → Int32) (p0 : Int32) (sz : Nat) : Met l yX8_save wsX8_save rmX8_save (va_Pc [.ref mo, .int p0] (fcB D tc [(mo, .inr (8, [.int rf, .ref sc, .int ss, .int sp, .int ig, .int lf, .ref rd, .ref nw, .ref tr, .ref di, .int ac, .ref kp, .ref ik])), (nw, .inl (tc 0, 357, .inl row)), (kp, .inl (tc 0, 714, .inl kpt)), (ik, .inl (tc 2, 2, .inl isk))] sz)) (va_Qi (fun (r : Int32) (u : Int32 × (Nat → Int32) × (Nat → Int32)) => mX8_save rf ss sp ig lf ac row kpt isk p0 = (r, u)) (fun u t => fcO D (va_A [(mo, .inr (8, [.int rf, .ref sc, .int ss, .int sp, .int ig, .int lf, .ref rd, .ref nw, .ref tr, .ref di, .int ac, .ref kp, .ref ik])), (nw, .inl (tc 0, 357, .inl row)), (kp, .inl (tc 0, 714, .inl kpt)), (ik, .inl (tc 2, 2, .inl isk))] sz) ((fun (u : Int32 × (Nat → Int32) × (Nat → Int32)) => [(mo, .inr (8, [.int (u.1), .ref sc, .int ss, .int sp, .int ig, .int lf, .ref rd, .ref nw, .ref tr, .ref di, .int ac, .ref kp, .ref ik])), (nw, .inl (tc 0, 357, .inl row)), (kp, .inl (tc 0, 714, .inl (u.2.1))), (ik, .inl (tc 2, 2, .inl (u.2.2)))]) u) t) (va_A [(mo, .inr (8, [.int rf, .ref sc, .int ss, .int sp, .int ig, .int lf, .ref rd, .ref nw, .ref tr, .ref di, .int ac, .ref kp, .ref ik])), (nw, .inl (tc 0, 357, .inl row)), (kp, .inl (tc 0, 714, .inl kpt)), (ik, .inl (tc 2, 2, .inl isk))] sz)) 0 0 (va_A [(mo, .inr (8, [.int rf, .ref sc, .int ss, .int sp, .int ig, .int lf, .ref rd, .ref nw, .ref tr, .ref di, .int ac, .ref kp, .ref ik])), (nw, .inl (tc 0, 357, .inl row)), (kp, .inl (tc 0, 714, .inl kpt)), (ik, .inl (tc 2, 2, .inl isk))] sz) := by
  refine fc_ofWi (own := RX8) (cc := cX8_save) (maxL := 2) (W1 := (fun (u : Int32 × (Nat → Int32) × (Nat → Int32)) => [(mo, .inr (8, [.int (u.1), .ref sc, .int ss, .int sp, .int ig, .int lf, .ref rd, .ref nw, .ref tr, .ref di, .int ac, .ref kp, .ref ik])), (nw, .inl (tc 0, 357, .inl row)), (kp, .inl (tc 0, 714, .inl (u.2.1))), (ik, .inl (tc 2, 2, .inl (u.2.2)))])) rfl (by decide) rfl (Nat.le_of_ble_eq_true rfl) ?_
  intro p e s m args below meth c A Q hx hb hml hown hts hK hE hP hD hS hA hin hret ls hl
  have hl : lv_has ls 2 [(0, .ref mo), (1, .int p0)] := hl
  refine lv_aload_n hx hb dX8_save_0 rfl (lv_at hl 0 rfl) ?_
  refine lv_iload_n hx hb dX8_save_1 rfl (lv_at hl 1 rfl) ?_
  refine lv_i2l hx hb dX8_save_2 rfl ?_
  refine lv_lconst (v := 0) hx hb dX8_save_3 (by decide) ?_
  refine lv_lconst (v := 1) hx hb dX8_save_4 (by decide) ?_
  refine fc_goi (isC := []) (isR := [0, 1, 2, 3]) (wc := []) (wr := [(mo, .inr (8, [.int rf, .ref sc, .int ss, .int sp, .int ig, .int lf, .ref rd, .ref nw, .ref tr, .ref di, .int ac, .ref kp, .ref ik])), (nw, .inl (tc 0, 357, .inl row)), (kp, .inl (tc 0, 714, .inl kpt)), (ik, .inl (tc 2, 2, .inl isk))]) hP hD hS hA rfl rfl (by decide) (by decide) (fc_runS (isC := []) (As := [.long p0.toInt64, .long 0, .long 1]) (rest := [.ref mo]) hx hb hml hown hts hK hE hP hD hS hA rfl (by decide) (c_X8_in l D tc p0.toInt64 0 1 _ ) (cwS 3 hts gX8_save_X8_in rfl rfl rfl hd_X8_in ⟨Nat.le_of_ble_eq_true rfl, Nat.le_of_ble_eq_true rfl⟩) rfl hl.1 rfl (Nat.le_of_ble_eq_true rfl) dX8_save_5 ⟨Nat.le_of_ble_eq_true rfl, Nat.le_of_ble_eq_true rfl⟩) (fun r_1 u_1 H locs hw_1 hP hD hS => ?_)
  try dsimp only at hw_1
  have hP : va_P D vwCl [(mo, .inr (8, [.int rf, .ref sc, .int ss, .int sp, .int ig, .int lf, .ref rd, .ref nw, .ref tr, .ref di, .int ac, .ref kp, .ref ik])), (nw, .inl (tc 0, 357, .inl row)), (kp, .inl (tc 0, 714, .inl kpt)), (ik, .inl (tc 2, 2, .inl isk))] H := hP
  have hD : va_D A [(mo, .inr (8, [.int rf, .ref sc, .int ss, .int sp, .int ig, .int lf, .ref rd, .ref nw, .ref tr, .ref di, .int ac, .ref kp, .ref ik])), (nw, .inl (tc 0, 357, .inl row)), (kp, .inl (tc 0, 714, .inl kpt)), (ik, .inl (tc 2, 2, .inl isk))] := hD
  have hi_1 := fx_in3 hw_1 (A := p0.toInt) (B := 0) (C := 1) (Int32.toInt_toInt64 _) (by decide) (by decide)
  refine lv_if_eq (tgt := 15) hx hb dX8_save_8 (by decide) (fun c_2 => ?_) (fun c_2 => ?_)
  · refine lv_iconst (v := 1) hx hb dX8_save_15 (by decide) ?_
    refine fc_goi (isC := [0]) (isR := [1, 2, 3]) (wc := [(mo, .inr (8, [.int rf, .ref sc, .int ss, .int sp, .int ig, .int lf, .ref rd, .ref nw, .ref tr, .ref di, .int ac, .ref kp, .ref ik]))]) (wr := [(nw, .inl (tc 0, 357, .inl row)), (kp, .inl (tc 0, 714, .inl kpt)), (ik, .inl (tc 2, 2, .inl isk))]) hP hD hS hA rfl rfl (by decide) (by decide) (fc_runV (isC := [0]) (As := [.int 1]) (rest := []) hx hb hml hown hts hK hE hP hD hS hA rfl (by decide) (c_X8_refused l D tc mo sc rd nw tr di kp ik rf ss sp ig lf ac 1 _ ) (cwV 1 hts gX8_save_X8_refused rfl rfl rfl hd_X8_refused ⟨Nat.le_of_ble_eq_true rfl, Nat.le_of_ble_eq_true rfl⟩) (ci := 8) rfl rfl rfl rfl hl.1 rfl (Nat.le_of_ble_eq_true rfl) dX8_save_16 ⟨Nat.le_of_ble_eq_true rfl, Nat.le_of_ble_eq_true rfl⟩) (fun r_3 u_3 H locs hw_3 hP hD hS => ?_)
    obtain ⟨rf_3, rfl⟩ : ∃ z, z = u_3 := ⟨_, rfl⟩
    obtain ⟨z1_3, z2_3⟩ := fx_ref1 hw_3
    subst z1_3
    subst z2_3
    have hP : va_P D vwCl [(nw, .inl (tc 0, 357, .inl row)), (kp, .inl (tc 0, 714, .inl kpt)), (ik, .inl (tc 2, 2, .inl isk)), (mo, .inr (8, [.int 1, .ref sc, .int ss, .int sp, .int ig, .int lf, .ref rd, .ref nw, .ref tr, .ref di, .int ac, .ref kp, .ref ik]))] H := hP
    have hD : va_D A [(nw, .inl (tc 0, 357, .inl row)), (kp, .inl (tc 0, 714, .inl kpt)), (ik, .inl (tc 2, 2, .inl isk)), (mo, .inr (8, [.int 1, .ref sc, .int ss, .int sp, .int ig, .int lf, .ref rd, .ref nw, .ref tr, .ref di, .int ac, .ref kp, .ref ik]))] := hD
    refine lv_if_eq (tgt := 24) hx hb dX8_save_19 (by decide) (fun c_4 => ?_) (fun c_4 => ?_)
    · exact absurd c_4 (by decide)
    · refine lv_iconst (v := 0) hx hb dX8_save_22 (by decide) ?_
      exact hret _ _ (0) (1, kpt, isk) _ _ (by rw [mX8_save]; (try dsimp only); rw [hw_1]; (try dsimp only); rw [if_pos c_2]; (first | done | rfl)) (hP.sub [3, 0, 1, 2] rfl) (hD.sub [3, 0, 1, 2] (by decide) rfl) hS dX8_save_23
  · have hj_1 := hi_1.resolve_left c_2
    refine lv_iconst (v := 0) hx hb dX8_save_11 (by decide) ?_
    refine lv_goto (tgt := 16) hx hb dX8_save_12 (by decide) ?_
    refine fc_goi (isC := [0]) (isR := [1, 2, 3]) (wc := [(mo, .inr (8, [.int rf, .ref sc, .int ss, .int sp, .int ig, .int lf, .ref rd, .ref nw, .ref tr, .ref di, .int ac, .ref kp, .ref ik]))]) (wr := [(nw, .inl (tc 0, 357, .inl row)), (kp, .inl (tc 0, 714, .inl kpt)), (ik, .inl (tc 2, 2, .inl isk))]) hP hD hS hA rfl rfl (by decide) (by decide) (fc_runV (isC := [0]) (As := [.int 0]) (rest := []) hx hb hml hown hts hK hE hP hD hS hA rfl (by decide) (c_X8_refused l D tc mo sc rd nw tr di kp ik rf ss sp ig lf ac 0 _ ) (cwV 1 hts gX8_save_X8_refused rfl rfl rfl hd_X8_refused ⟨Nat.le_of_ble_eq_true rfl, Nat.le_of_ble_eq_true rfl⟩) (ci := 8) rfl rfl rfl rfl hl.1 rfl (Nat.le_of_ble_eq_true rfl) dX8_save_16 ⟨Nat.le_of_ble_eq_true rfl, Nat.le_of_ble_eq_true rfl⟩) (fun r_5 u_5 H locs hw_5 hP hD hS => ?_)
    obtain ⟨rf_5, rfl⟩ : ∃ z, z = u_5 := ⟨_, rfl⟩
    obtain ⟨z1_5, z2_5⟩ := fx_ref0 hw_5
    subst z1_5
    subst z2_5
    have hP : va_P D vwCl [(nw, .inl (tc 0, 357, .inl row)), (kp, .inl (tc 0, 714, .inl kpt)), (ik, .inl (tc 2, 2, .inl isk)), (mo, .inr (8, [.int 0, .ref sc, .int ss, .int sp, .int ig, .int lf, .ref rd, .ref nw, .ref tr, .ref di, .int ac, .ref kp, .ref ik]))] H := hP
    have hD : va_D A [(nw, .inl (tc 0, 357, .inl row)), (kp, .inl (tc 0, 714, .inl kpt)), (ik, .inl (tc 2, 2, .inl isk)), (mo, .inr (8, [.int 0, .ref sc, .int ss, .int sp, .int ig, .int lf, .ref rd, .ref nw, .ref tr, .ref di, .int ac, .ref kp, .ref ik]))] := hD
    refine lv_if_eq (tgt := 24) hx hb dX8_save_19 (by decide) (fun c_6 => ?_) (fun c_6 => ?_)
    · refine lv_aload_n hx hb dX8_save_24 rfl (lv_at hl 0 rfl) ?_
      refine va_get (D := D) (ci := 8) (v := .ref nw) (C := RX8) (T := TX8) (N := 13) hx hb hts iX8_save_X8 hown hK hP 3 rfl rfl 7 (by decide) (hts (.fieldLink RX8 16 "FrameCardModel" "now" "[I") (by decide +kernel)) (fun _ h9 => h9) rfl dX8_save_25 ?_
      refine lv_iconst (v := 0) hx hb dX8_save_28 (by decide) ?_
      refine lv_aload_n hx hb dX8_save_29 rfl (lv_at hl 0 rfl) ?_
      refine va_get (D := D) (ci := 8) (v := .ref kp) (C := RX8) (T := TX8) (N := 13) hx hb hts iX8_save_X8 hown hK hP 3 rfl rfl 11 (by decide) (hts (.fieldLink RX8 25 "FrameCardModel" "kept" "[I") (by decide +kernel)) (fun _ h9 => h9) rfl dX8_save_30 ?_
      refine lv_sipush (v := 357) hx hb dX8_save_33 (by decide) ?_
      refine lv_iload_n hx hb dX8_save_36 rfl (lv_at hl 1 rfl) ?_
      refine lv_imul hx hb dX8_save_37 ?_
      refine lv_sipush (v := 357) hx hb dX8_save_38 (by decide) ?_
      have b1 := fc_kmul (x := p0) (k := 357) (n := 357) (by decide) (by omega) (by omega)
      refine fc_gov (isC := [0, 1]) (isR := [2, 3]) (wc := [(nw, .inl (tc 0, 357, .inl row)), (kp, .inl (tc 0, 714, .inl kpt))]) (wr := [(ik, .inl (tc 2, 2, .inl isk)), (mo, .inr (8, [.int 0, .ref sc, .int ss, .int sp, .int ig, .int lf, .ref rd, .ref nw, .ref tr, .ref di, .int ac, .ref kp, .ref ik]))]) hP hD hS hA rfl rfl (by decide) (by decide) (fc_runS (isC := [0, 1]) (As := [.ref nw, .int 0, .ref kp, .int (357 * p0), .int 357]) (rest := []) hx hb hml hown hts hK hE hP hD hS hA rfl (by decide) (c_X8_copy l D tc nw 357 row kp 714 kpt 0 (357 * p0) 357 _ (by have l_0 : (0 : Int32).toInt = 0 := (by decide); have l_1 : (1 : Int32).toInt = 1 := (by decide); have l_2 : (2 : Int32).toInt = 2 := (by decide); have l_3 : (3 : Int32).toInt = 3 := (by decide); have l_357 : (357 : Int32).toInt = 357 := (by decide); have l_4 : (4 : Int32).toInt = 4 := (by decide); have l_714 : (714 : Int32).toInt = 714 := (by decide); have qc_2 := c_2; (try simp only [fc_le, fc_lt, fc_eq] at qc_2); have a_1 := fc_kmul (x := p0) (k := 357) (n := 357) (by decide) (by omega) (by omega); have qhj_1 := hj_1; (try simp only [fc_le, fc_lt, fc_eq] at qhj_1); (try simp only [fc_le, fc_lt, fc_eq]); omega) (by have l_0 : (0 : Int32).toInt = 0 := (by decide); have l_1 : (1 : Int32).toInt = 1 := (by decide); have l_2 : (2 : Int32).toInt = 2 := (by decide); have l_3 : (3 : Int32).toInt = 3 := (by decide); have l_357 : (357 : Int32).toInt = 357 := (by decide); have l_4 : (4 : Int32).toInt = 4 := (by decide); have l_714 : (714 : Int32).toInt = 714 := (by decide); have qc_2 := c_2; (try simp only [fc_le, fc_lt, fc_eq] at qc_2); have a_1 := fc_kmul (x := p0) (k := 357) (n := 357) (by decide) (by omega) (by omega); have qhj_1 := hj_1; (try simp only [fc_le, fc_lt, fc_eq] at qhj_1); (try simp only [fc_le, fc_lt, fc_eq]); omega) (by have l_0 : (0 : Int32).toInt = 0 := (by decide); have l_1 : (1 : Int32).toInt = 1 := (by decide); have l_2 : (2 : Int32).toInt = 2 := (by decide); have l_3 : (3 : Int32).toInt = 3 := (by decide); have l_357 : (357 : Int32).toInt = 357 := (by decide); have l_4 : (4 : Int32).toInt = 4 := (by decide); have l_714 : (714 : Int32).toInt = 714 := (by decide); have qc_2 := c_2; (try simp only [fc_le, fc_lt, fc_eq] at qc_2); have a_1 := fc_kmul (x := p0) (k := 357) (n := 357) (by decide) (by omega) (by omega); have qhj_1 := hj_1; (try simp only [fc_le, fc_lt, fc_eq] at qhj_1); (try simp only [fc_le, fc_lt, fc_eq]); omega)) (cwS 5 hts gX8_save_X8_copy rfl rfl rfl hd_X8_copy ⟨Nat.le_of_ble_eq_true rfl, Nat.le_of_ble_eq_true rfl⟩) rfl hl.1 rfl (Nat.le_of_ble_eq_true rfl) dX8_save_41 ⟨Nat.le_of_ble_eq_true rfl, Nat.le_of_ble_eq_true rfl⟩) (fun u_7 H locs hw_7 hP hD hS => ?_)
      obtain ⟨g_7, rfl⟩ : ∃ z, z = u_7 := ⟨_, rfl⟩
      try dsimp only at hw_7
      have hP : va_P D vwCl [(ik, .inl (tc 2, 2, .inl isk)), (mo, .inr (8, [.int 0, .ref sc, .int ss, .int sp, .int ig, .int lf, .ref rd, .ref nw, .ref tr, .ref di, .int ac, .ref kp, .ref ik])), (nw, .inl (tc 0, 357, .inl row)), (kp, .inl (tc 0, 714, .inl g_7))] H := hP
      have hD : va_D A [(ik, .inl (tc 2, 2, .inl isk)), (mo, .inr (8, [.int 0, .ref sc, .int ss, .int sp, .int ig, .int lf, .ref rd, .ref nw, .ref tr, .ref di, .int ac, .ref kp, .ref ik])), (nw, .inl (tc 0, 357, .inl row)), (kp, .inl (tc 0, 714, .inl g_7))] := hD
      refine lv_aload_n hx hb dX8_save_44 rfl (lv_at hl 0 rfl) ?_
      refine va_get (D := D) (ci := 8) (v := .ref ik) (C := RX8) (T := TX8) (N := 13) hx hb hts iX8_save_X8 hown hK hP 1 rfl rfl 12 (by decide) (hts (.fieldLink RX8 28 "FrameCardModel" "isKept" "[Z") (by decide +kernel)) (fun _ h9 => h9) rfl dX8_save_45 ?_
      refine lv_iload_n hx hb dX8_save_48 rfl (lv_at hl 1 rfl) ?_
      refine lv_iconst (v := 1) hx hb dX8_save_49 (by decide) ?_
      refine va_zast (D := D) hx hb hK hP hD hS 0 2 rfl rfl (by have l_0 : (0 : Int32).toInt = 0 := (by decide); have l_1 : (1 : Int32).toInt = 1 := (by decide); have l_2 : (2 : Int32).toInt = 2 := (by decide); have l_3 : (3 : Int32).toInt = 3 := (by decide); have l_4 : (4 : Int32).toInt = 4 := (by decide); have qc_2 := c_2; (try simp only [fc_le, fc_lt, fc_eq] at qc_2); have qhj_1 := hj_1; (try simp only [fc_le, fc_lt, fc_eq] at qhj_1); rw [vp_in_iff]; omega) dX8_save_50 (fun H locs hP hD hS => ?_)
      have hP : va_P D vwCl [(ik, .inl (tc 2, 2, .inl (upd isk p0.toNatClampNeg (vp_nar .boolean 1)))), (mo, .inr (8, [.int 0, .ref sc, .int ss, .int sp, .int ig, .int lf, .ref rd, .ref nw, .ref tr, .ref di, .int ac, .ref kp, .ref ik])), (nw, .inl (tc 0, 357, .inl row)), (kp, .inl (tc 0, 714, .inl g_7))] H := hP
      have hD : va_D A [(ik, .inl (tc 2, 2, .inl (upd isk p0.toNatClampNeg (vp_nar .boolean 1)))), (mo, .inr (8, [.int 0, .ref sc, .int ss, .int sp, .int ig, .int lf, .ref rd, .ref nw, .ref tr, .ref di, .int ac, .ref kp, .ref ik])), (nw, .inl (tc 0, 357, .inl row)), (kp, .inl (tc 0, 714, .inl g_7))] := hD
      refine lv_aload_n hx hb dX8_save_51 rfl (lv_at hl 0 rfl) ?_
      refine va_get (D := D) (ci := 8) (v := .ref nw) (C := RX8) (T := TX8) (N := 13) hx hb hts iX8_save_X8 hown hK hP 1 rfl rfl 7 (by decide) (hts (.fieldLink RX8 16 "FrameCardModel" "now" "[I") (by decide +kernel)) (fun _ h9 => h9) rfl dX8_save_52 ?_
      refine lv_bipush (v := 16) hx hb dX8_save_55 (by decide) ?_
      refine va_iald (D := D) hx hb hK hP 2 0 rfl rfl (vp_in_iff.mpr (by decide)) dX8_save_57 ?_
      exact hret _ _ (row (16 : Int32).toNatClampNeg) (0, g_7, (upd isk p0.toNatClampNeg (vp_nar .boolean 1))) _ _ (by rw [mX8_save]; (try dsimp only); rw [hw_1]; (try dsimp only); rw [if_neg c_2]; rw [hw_7]; (try dsimp only); (first | done | rfl)) (hP.sub [1, 2, 3, 0] rfl) (hD.sub [1, 2, 3, 0] (by decide) rfl) hS dX8_save_58
    · exact absurd (by decide) c_6
--# X8_restore
noncomputable def mX8_restore (rf : Int32) (ss : Int32) (sp : Int32) (ig : Int32) (lf : Int32) (ac : Int32) (row : Nat → Int32) (kpt : Nat → Int32) (isk : Nat → Int32) (p0 : Int32) : Int32 × Int32 × Int32 × (Nat → Int32) :=
  let r_1 := mX8_in p0.toInt64 0 1
  if r_1 = 0 then
    (0, 1, ac, row)
  else
    if (isk p0.toNatClampNeg) = 0 then
      (0, 2, ac, row)
    else
      let g_8 := mX8_copy 714 kpt 357 row (357 * p0) 0 357
      ((g_8 (16 : Int32).toNatClampNeg), 0, 0, g_8)
set_option maxRecDepth 20000 in
theorem iX8_restore_X8 : ∀ w ∈ wsX80, w ∈ wsX8_restore := by decide +kernel
abbrev rmX8_restore : Room := { frames := 1, cells := 0, slots := 0, locals := 25 }
set_option maxHeartbeats 4000000 in
set_option maxRecDepth 100000 in
theorem c_X8_restore (l : Launch) (D : va_G) (tc : Nat → ClassId) (mo : Nat) (sc : Nat) (rd : Nat) (nw : Nat) (tr : Nat) (di : Nat) (kp : Nat) (ik : Nat) (rf : Int32) (ss : Int32) (sp : Int32) (ig : Int32) (lf : Int32) (ac : Int32) (row : Nat → Int32) (kpt : Nat → Int32) (isk : Nat → Int32) (p0 : Int32) (sz : Nat) : Met l yX8_restore wsX8_restore rmX8_restore (va_Pc [.ref mo, .int p0] (fcB D tc [(mo, .inr (8, [.int rf, .ref sc, .int ss, .int sp, .int ig, .int lf, .ref rd, .ref nw, .ref tr, .ref di, .int ac, .ref kp, .ref ik])), (nw, .inl (tc 0, 357, .inl row)), (kp, .inl (tc 0, 714, .inl kpt)), (ik, .inl (tc 2, 2, .inl isk))] sz)) (va_Qi (fun (r : Int32) (u : Int32 × Int32 × (Nat → Int32)) => mX8_restore rf ss sp ig lf ac row kpt isk p0 = (r, u)) (fun u t => fcO D (va_A [(mo, .inr (8, [.int rf, .ref sc, .int ss, .int sp, .int ig, .int lf, .ref rd, .ref nw, .ref tr, .ref di, .int ac, .ref kp, .ref ik])), (nw, .inl (tc 0, 357, .inl row)), (kp, .inl (tc 0, 714, .inl kpt)), (ik, .inl (tc 2, 2, .inl isk))] sz) ((fun (u : Int32 × Int32 × (Nat → Int32)) => [(mo, .inr (8, [.int (u.1), .ref sc, .int ss, .int sp, .int ig, .int lf, .ref rd, .ref nw, .ref tr, .ref di, .int (u.2.1), .ref kp, .ref ik])), (nw, .inl (tc 0, 357, .inl (u.2.2))), (kp, .inl (tc 0, 714, .inl kpt)), (ik, .inl (tc 2, 2, .inl isk))]) u) t) (va_A [(mo, .inr (8, [.int rf, .ref sc, .int ss, .int sp, .int ig, .int lf, .ref rd, .ref nw, .ref tr, .ref di, .int ac, .ref kp, .ref ik])), (nw, .inl (tc 0, 357, .inl row)), (kp, .inl (tc 0, 714, .inl kpt)), (ik, .inl (tc 2, 2, .inl isk))] sz)) 0 0 (va_A [(mo, .inr (8, [.int rf, .ref sc, .int ss, .int sp, .int ig, .int lf, .ref rd, .ref nw, .ref tr, .ref di, .int ac, .ref kp, .ref ik])), (nw, .inl (tc 0, 357, .inl row)), (kp, .inl (tc 0, 714, .inl kpt)), (ik, .inl (tc 2, 2, .inl isk))] sz) := by
  refine fc_ofWi (own := RX8) (cc := cX8_restore) (maxL := 2) (W1 := (fun (u : Int32 × Int32 × (Nat → Int32)) => [(mo, .inr (8, [.int (u.1), .ref sc, .int ss, .int sp, .int ig, .int lf, .ref rd, .ref nw, .ref tr, .ref di, .int (u.2.1), .ref kp, .ref ik])), (nw, .inl (tc 0, 357, .inl (u.2.2))), (kp, .inl (tc 0, 714, .inl kpt)), (ik, .inl (tc 2, 2, .inl isk))])) rfl (by decide) rfl (Nat.le_of_ble_eq_true rfl) ?_
  intro p e s m args below meth c A Q hx hb hml hown hts hK hE hP hD hS hA hin hret ls hl
  have hl : lv_has ls 2 [(0, .ref mo), (1, .int p0)] := hl
  refine lv_aload_n hx hb dX8_restore_0 rfl (lv_at hl 0 rfl) ?_
  refine lv_iload_n hx hb dX8_restore_1 rfl (lv_at hl 1 rfl) ?_
  refine lv_i2l hx hb dX8_restore_2 rfl ?_
  refine lv_lconst (v := 0) hx hb dX8_restore_3 (by decide) ?_
  refine lv_lconst (v := 1) hx hb dX8_restore_4 (by decide) ?_
  refine fc_goi (isC := []) (isR := [0, 1, 2, 3]) (wc := []) (wr := [(mo, .inr (8, [.int rf, .ref sc, .int ss, .int sp, .int ig, .int lf, .ref rd, .ref nw, .ref tr, .ref di, .int ac, .ref kp, .ref ik])), (nw, .inl (tc 0, 357, .inl row)), (kp, .inl (tc 0, 714, .inl kpt)), (ik, .inl (tc 2, 2, .inl isk))]) hP hD hS hA rfl rfl (by decide) (by decide) (fc_runS (isC := []) (As := [.long p0.toInt64, .long 0, .long 1]) (rest := [.ref mo]) hx hb hml hown hts hK hE hP hD hS hA rfl (by decide) (c_X8_in l D tc p0.toInt64 0 1 _ ) (cwS 3 hts gX8_restore_X8_in rfl rfl rfl hd_X8_in ⟨Nat.le_of_ble_eq_true rfl, Nat.le_of_ble_eq_true rfl⟩) rfl hl.1 rfl (Nat.le_of_ble_eq_true rfl) dX8_restore_5 ⟨Nat.le_of_ble_eq_true rfl, Nat.le_of_ble_eq_true rfl⟩) (fun r_1 u_1 H locs hw_1 hP hD hS => ?_)
  try dsimp only at hw_1
  have hP : va_P D vwCl [(mo, .inr (8, [.int rf, .ref sc, .int ss, .int sp, .int ig, .int lf, .ref rd, .ref nw, .ref tr, .ref di, .int ac, .ref kp, .ref ik])), (nw, .inl (tc 0, 357, .inl row)), (kp, .inl (tc 0, 714, .inl kpt)), (ik, .inl (tc 2, 2, .inl isk))] H := hP
  have hD : va_D A [(mo, .inr (8, [.int rf, .ref sc, .int ss, .int sp, .int ig, .int lf, .ref rd, .ref nw, .ref tr, .ref di, .int ac, .ref kp, .ref ik])), (nw, .inl (tc 0, 357, .inl row)), (kp, .inl (tc 0, 714, .inl kpt)), (ik, .inl (tc 2, 2, .inl isk))] := hD
  have hi_1 := fx_in3 hw_1 (A := p0.toInt) (B := 0) (C := 1) (Int32.toInt_toInt64 _) (by decide) (by decide)
  refine lv_if_ne (tgt := 15) hx hb dX8_restore_8 (by decide) (fun c_2 => ?_) (fun c_2 => ?_)
  · have hj_1 := hi_1.resolve_left c_2
    refine lv_aload_n hx hb dX8_restore_15 rfl (lv_at hl 0 rfl) ?_
    refine va_get (D := D) (ci := 8) (v := .ref ik) (C := RX8) (T := TX8) (N := 13) hx hb hts iX8_restore_X8 hown hK hP 0 rfl rfl 12 (by decide) (hts (.fieldLink RX8 28 "FrameCardModel" "isKept" "[Z") (by decide +kernel)) (fun _ h9 => h9) rfl dX8_restore_16 ?_
    refine lv_iload_n hx hb dX8_restore_19 rfl (lv_at hl 1 rfl) ?_
    refine va_zald (D := D) hx hb hK hP 3 2 rfl rfl (by have l_0 : (0 : Int32).toInt = 0 := (by decide); have l_1 : (1 : Int32).toInt = 1 := (by decide); have l_2 : (2 : Int32).toInt = 2 := (by decide); have l_3 : (3 : Int32).toInt = 3 := (by decide); have l_4 : (4 : Int32).toInt = 4 := (by decide); have qc_2 := c_2; (try simp only [fc_le, fc_lt, fc_eq] at qc_2); have qhj_1 := hj_1; (try simp only [fc_le, fc_lt, fc_eq] at qhj_1); rw [vp_in_iff]; omega) dX8_restore_20 ?_
    refine lv_if_eq (tgt := 28) hx hb dX8_restore_21 (by decide) (fun c_3 => ?_) (fun c_3 => ?_)
    · refine lv_iconst (v := 2) hx hb dX8_restore_28 (by decide) ?_
      refine fc_goi (isC := [0]) (isR := [1, 2, 3]) (wc := [(mo, .inr (8, [.int rf, .ref sc, .int ss, .int sp, .int ig, .int lf, .ref rd, .ref nw, .ref tr, .ref di, .int ac, .ref kp, .ref ik]))]) (wr := [(nw, .inl (tc 0, 357, .inl row)), (kp, .inl (tc 0, 714, .inl kpt)), (ik, .inl (tc 2, 2, .inl isk))]) hP hD hS hA rfl rfl (by decide) (by decide) (fc_runV (isC := [0]) (As := [.int 2]) (rest := []) hx hb hml hown hts hK hE hP hD hS hA rfl (by decide) (c_X8_refused l D tc mo sc rd nw tr di kp ik rf ss sp ig lf ac 2 _ ) (cwV 1 hts gX8_restore_X8_refused rfl rfl rfl hd_X8_refused ⟨Nat.le_of_ble_eq_true rfl, Nat.le_of_ble_eq_true rfl⟩) (ci := 8) rfl rfl rfl rfl hl.1 rfl (Nat.le_of_ble_eq_true rfl) dX8_restore_29 ⟨Nat.le_of_ble_eq_true rfl, Nat.le_of_ble_eq_true rfl⟩) (fun r_4 u_4 H locs hw_4 hP hD hS => ?_)
      obtain ⟨rf_4, rfl⟩ : ∃ z, z = u_4 := ⟨_, rfl⟩
      obtain ⟨z1_4, z2_4⟩ := fx_ref2 hw_4
      subst z1_4
      subst z2_4
      have hP : va_P D vwCl [(nw, .inl (tc 0, 357, .inl row)), (kp, .inl (tc 0, 714, .inl kpt)), (ik, .inl (tc 2, 2, .inl isk)), (mo, .inr (8, [.int 2, .ref sc, .int ss, .int sp, .int ig, .int lf, .ref rd, .ref nw, .ref tr, .ref di, .int ac, .ref kp, .ref ik]))] H := hP
      have hD : va_D A [(nw, .inl (tc 0, 357, .inl row)), (kp, .inl (tc 0, 714, .inl kpt)), (ik, .inl (tc 2, 2, .inl isk)), (mo, .inr (8, [.int 2, .ref sc, .int ss, .int sp, .int ig, .int lf, .ref rd, .ref nw, .ref tr, .ref di, .int ac, .ref kp, .ref ik]))] := hD
      refine lv_if_eq (tgt := 37) hx hb dX8_restore_32 (by decide) (fun c_5 => ?_) (fun c_5 => ?_)
      · exact absurd c_5 (by decide)
      · refine lv_iconst (v := 0) hx hb dX8_restore_35 (by decide) ?_
        exact hret _ _ (0) (2, ac, row) _ _ (by rw [mX8_restore]; (try dsimp only); rw [hw_1]; (try dsimp only); rw [if_neg c_2]; rw [if_pos c_3]; (first | done | rfl)) (hP.sub [3, 0, 1, 2] rfl) (hD.sub [3, 0, 1, 2] (by decide) rfl) hS dX8_restore_36
    · refine lv_iconst (v := 0) hx hb dX8_restore_24 (by decide) ?_
      refine lv_goto (tgt := 29) hx hb dX8_restore_25 (by decide) ?_
      refine fc_goi (isC := [0]) (isR := [1, 2, 3]) (wc := [(mo, .inr (8, [.int rf, .ref sc, .int ss, .int sp, .int ig, .int lf, .ref rd, .ref nw, .ref tr, .ref di, .int ac, .ref kp, .ref ik]))]) (wr := [(nw, .inl (tc 0, 357, .inl row)), (kp, .inl (tc 0, 714, .inl kpt)), (ik, .inl (tc 2, 2, .inl isk))]) hP hD hS hA rfl rfl (by decide) (by decide) (fc_runV (isC := [0]) (As := [.int 0]) (rest := []) hx hb hml hown hts hK hE hP hD hS hA rfl (by decide) (c_X8_refused l D tc mo sc rd nw tr di kp ik rf ss sp ig lf ac 0 _ ) (cwV 1 hts gX8_restore_X8_refused rfl rfl rfl hd_X8_refused ⟨Nat.le_of_ble_eq_true rfl, Nat.le_of_ble_eq_true rfl⟩) (ci := 8) rfl rfl rfl rfl hl.1 rfl (Nat.le_of_ble_eq_true rfl) dX8_restore_29 ⟨Nat.le_of_ble_eq_true rfl, Nat.le_of_ble_eq_true rfl⟩) (fun r_6 u_6 H locs hw_6 hP hD hS => ?_)
      obtain ⟨rf_6, rfl⟩ : ∃ z, z = u_6 := ⟨_, rfl⟩
      obtain ⟨z1_6, z2_6⟩ := fx_ref0 hw_6
      subst z1_6
      subst z2_6
      have hP : va_P D vwCl [(nw, .inl (tc 0, 357, .inl row)), (kp, .inl (tc 0, 714, .inl kpt)), (ik, .inl (tc 2, 2, .inl isk)), (mo, .inr (8, [.int 0, .ref sc, .int ss, .int sp, .int ig, .int lf, .ref rd, .ref nw, .ref tr, .ref di, .int ac, .ref kp, .ref ik]))] H := hP
      have hD : va_D A [(nw, .inl (tc 0, 357, .inl row)), (kp, .inl (tc 0, 714, .inl kpt)), (ik, .inl (tc 2, 2, .inl isk)), (mo, .inr (8, [.int 0, .ref sc, .int ss, .int sp, .int ig, .int lf, .ref rd, .ref nw, .ref tr, .ref di, .int ac, .ref kp, .ref ik]))] := hD
      refine lv_if_eq (tgt := 37) hx hb dX8_restore_32 (by decide) (fun c_7 => ?_) (fun c_7 => ?_)
      · refine lv_aload_n hx hb dX8_restore_37 rfl (lv_at hl 0 rfl) ?_
        refine va_get (D := D) (ci := 8) (v := .ref kp) (C := RX8) (T := TX8) (N := 13) hx hb hts iX8_restore_X8 hown hK hP 3 rfl rfl 11 (by decide) (hts (.fieldLink RX8 25 "FrameCardModel" "kept" "[I") (by decide +kernel)) (fun _ h9 => h9) rfl dX8_restore_38 ?_
        refine lv_sipush (v := 357) hx hb dX8_restore_41 (by decide) ?_
        refine lv_iload_n hx hb dX8_restore_44 rfl (lv_at hl 1 rfl) ?_
        refine lv_imul hx hb dX8_restore_45 ?_
        refine lv_aload_n hx hb dX8_restore_46 rfl (lv_at hl 0 rfl) ?_
        refine va_get (D := D) (ci := 8) (v := .ref nw) (C := RX8) (T := TX8) (N := 13) hx hb hts iX8_restore_X8 hown hK hP 3 rfl rfl 7 (by decide) (hts (.fieldLink RX8 16 "FrameCardModel" "now" "[I") (by decide +kernel)) (fun _ h9 => h9) rfl dX8_restore_47 ?_
        refine lv_iconst (v := 0) hx hb dX8_restore_50 (by decide) ?_
        refine lv_sipush (v := 357) hx hb dX8_restore_51 (by decide) ?_
        have b1 := fc_kmul (x := p0) (k := 357) (n := 357) (by decide) (by omega) (by omega)
        refine fc_gov (isC := [1, 0]) (isR := [2, 3]) (wc := [(kp, .inl (tc 0, 714, .inl kpt)), (nw, .inl (tc 0, 357, .inl row))]) (wr := [(ik, .inl (tc 2, 2, .inl isk)), (mo, .inr (8, [.int 0, .ref sc, .int ss, .int sp, .int ig, .int lf, .ref rd, .ref nw, .ref tr, .ref di, .int ac, .ref kp, .ref ik]))]) hP hD hS hA rfl rfl (by decide) (by decide) (fc_runS (isC := [1, 0]) (As := [.ref kp, .int (357 * p0), .ref nw, .int 0, .int 357]) (rest := []) hx hb hml hown hts hK hE hP hD hS hA rfl (by decide) (c_X8_copy l D tc kp 714 kpt nw 357 row (357 * p0) 0 357 _ (by have l_0 : (0 : Int32).toInt = 0 := (by decide); have l_1 : (1 : Int32).toInt = 1 := (by decide); have l_2 : (2 : Int32).toInt = 2 := (by decide); have l_3 : (3 : Int32).toInt = 3 := (by decide); have l_357 : (357 : Int32).toInt = 357 := (by decide); have l_4 : (4 : Int32).toInt = 4 := (by decide); have l_714 : (714 : Int32).toInt = 714 := (by decide); have qc_2 := c_2; (try simp only [fc_le, fc_lt, fc_eq] at qc_2); have qc_3 := c_3; (try simp only [fc_le, fc_lt, fc_eq] at qc_3); have a_1 := fc_kmul (x := p0) (k := 357) (n := 357) (by decide) (by omega) (by omega); have qhj_1 := hj_1; (try simp only [fc_le, fc_lt, fc_eq] at qhj_1); (try simp only [fc_le, fc_lt, fc_eq]); omega) (by have l_0 : (0 : Int32).toInt = 0 := (by decide); have l_1 : (1 : Int32).toInt = 1 := (by decide); have l_2 : (2 : Int32).toInt = 2 := (by decide); have l_3 : (3 : Int32).toInt = 3 := (by decide); have l_357 : (357 : Int32).toInt = 357 := (by decide); have l_4 : (4 : Int32).toInt = 4 := (by decide); have l_714 : (714 : Int32).toInt = 714 := (by decide); have qc_2 := c_2; (try simp only [fc_le, fc_lt, fc_eq] at qc_2); have qc_3 := c_3; (try simp only [fc_le, fc_lt, fc_eq] at qc_3); have a_1 := fc_kmul (x := p0) (k := 357) (n := 357) (by decide) (by omega) (by omega); have qhj_1 := hj_1; (try simp only [fc_le, fc_lt, fc_eq] at qhj_1); (try simp only [fc_le, fc_lt, fc_eq]); omega) (by have l_0 : (0 : Int32).toInt = 0 := (by decide); have l_1 : (1 : Int32).toInt = 1 := (by decide); have l_2 : (2 : Int32).toInt = 2 := (by decide); have l_3 : (3 : Int32).toInt = 3 := (by decide); have l_357 : (357 : Int32).toInt = 357 := (by decide); have l_4 : (4 : Int32).toInt = 4 := (by decide); have l_714 : (714 : Int32).toInt = 714 := (by decide); have qc_2 := c_2; (try simp only [fc_le, fc_lt, fc_eq] at qc_2); have qc_3 := c_3; (try simp only [fc_le, fc_lt, fc_eq] at qc_3); have a_1 := fc_kmul (x := p0) (k := 357) (n := 357) (by decide) (by omega) (by omega); have qhj_1 := hj_1; (try simp only [fc_le, fc_lt, fc_eq] at qhj_1); (try simp only [fc_le, fc_lt, fc_eq]); omega)) (cwS 5 hts gX8_restore_X8_copy rfl rfl rfl hd_X8_copy ⟨Nat.le_of_ble_eq_true rfl, Nat.le_of_ble_eq_true rfl⟩) rfl hl.1 rfl (Nat.le_of_ble_eq_true rfl) dX8_restore_54 ⟨Nat.le_of_ble_eq_true rfl, Nat.le_of_ble_eq_true rfl⟩) (fun u_8 H locs hw_8 hP hD hS => ?_)
        obtain ⟨g_8, rfl⟩ : ∃ z, z = u_8 := ⟨_, rfl⟩
        try dsimp only at hw_8
        have hP : va_P D vwCl [(ik, .inl (tc 2, 2, .inl isk)), (mo, .inr (8, [.int 0, .ref sc, .int ss, .int sp, .int ig, .int lf, .ref rd, .ref nw, .ref tr, .ref di, .int ac, .ref kp, .ref ik])), (kp, .inl (tc 0, 714, .inl kpt)), (nw, .inl (tc 0, 357, .inl g_8))] H := hP
        have hD : va_D A [(ik, .inl (tc 2, 2, .inl isk)), (mo, .inr (8, [.int 0, .ref sc, .int ss, .int sp, .int ig, .int lf, .ref rd, .ref nw, .ref tr, .ref di, .int ac, .ref kp, .ref ik])), (kp, .inl (tc 0, 714, .inl kpt)), (nw, .inl (tc 0, 357, .inl g_8))] := hD
        refine lv_aload_n hx hb dX8_restore_57 rfl (lv_at hl 0 rfl) ?_
        refine lv_iconst (v := 0) hx hb dX8_restore_58 (by decide) ?_
        refine va_put (D := D) (ci := 8) (v := .int 0) (ty := .int) (C := RX8) (T := TX8) (N := 13) hx hb hts iX8_restore_X8 tyX8 tyX8_ok nmX8 hown hK hP hD hS 1 rfl rfl 10 (by decide) (hts (.fieldLink RX8 42 "FrameCardModel" "acts" "I") (by decide +kernel)) (fun _ h9 => h9) rfl (by decide +kernel) rfl rfl (Nat.le_of_ble_eq_true rfl) dX8_restore_59 (fun H locs hP hD hS => ?_)
        have hP : va_P D vwCl [(ik, .inl (tc 2, 2, .inl isk)), (mo, .inr (8, [.int 0, .ref sc, .int ss, .int sp, .int ig, .int lf, .ref rd, .ref nw, .ref tr, .ref di, .int 0, .ref kp, .ref ik])), (kp, .inl (tc 0, 714, .inl kpt)), (nw, .inl (tc 0, 357, .inl g_8))] H := hP
        have hD : va_D A [(ik, .inl (tc 2, 2, .inl isk)), (mo, .inr (8, [.int 0, .ref sc, .int ss, .int sp, .int ig, .int lf, .ref rd, .ref nw, .ref tr, .ref di, .int 0, .ref kp, .ref ik])), (kp, .inl (tc 0, 714, .inl kpt)), (nw, .inl (tc 0, 357, .inl g_8))] := hD
        refine lv_aload_n hx hb dX8_restore_62 rfl (lv_at hl 0 rfl) ?_
        refine va_get (D := D) (ci := 8) (v := .ref nw) (C := RX8) (T := TX8) (N := 13) hx hb hts iX8_restore_X8 hown hK hP 1 rfl rfl 7 (by decide) (hts (.fieldLink RX8 16 "FrameCardModel" "now" "[I") (by decide +kernel)) (fun _ h9 => h9) rfl dX8_restore_63 ?_
        refine lv_bipush (v := 16) hx hb dX8_restore_66 (by decide) ?_
        refine va_iald (D := D) hx hb hK hP 3 0 rfl rfl (vp_in_iff.mpr (by decide)) dX8_restore_68 ?_
        exact hret _ _ (g_8 (16 : Int32).toNatClampNeg) (0, 0, g_8) _ _ (by rw [mX8_restore]; (try dsimp only); rw [hw_1]; (try dsimp only); rw [if_neg c_2]; rw [if_neg c_3]; rw [hw_8]; (try dsimp only); (first | done | rfl)) (hP.sub [1, 3, 2, 0] rfl) (hD.sub [1, 3, 2, 0] (by decide) rfl) hS dX8_restore_69
      · exact absurd (by decide) c_7
  · refine lv_iconst (v := 1) hx hb dX8_restore_11 (by decide) ?_
    refine lv_goto (tgt := 29) hx hb dX8_restore_12 (by decide) ?_
    refine fc_goi (isC := [0]) (isR := [1, 2, 3]) (wc := [(mo, .inr (8, [.int rf, .ref sc, .int ss, .int sp, .int ig, .int lf, .ref rd, .ref nw, .ref tr, .ref di, .int ac, .ref kp, .ref ik]))]) (wr := [(nw, .inl (tc 0, 357, .inl row)), (kp, .inl (tc 0, 714, .inl kpt)), (ik, .inl (tc 2, 2, .inl isk))]) hP hD hS hA rfl rfl (by decide) (by decide) (fc_runV (isC := [0]) (As := [.int 1]) (rest := []) hx hb hml hown hts hK hE hP hD hS hA rfl (by decide) (c_X8_refused l D tc mo sc rd nw tr di kp ik rf ss sp ig lf ac 1 _ ) (cwV 1 hts gX8_restore_X8_refused rfl rfl rfl hd_X8_refused ⟨Nat.le_of_ble_eq_true rfl, Nat.le_of_ble_eq_true rfl⟩) (ci := 8) rfl rfl rfl rfl hl.1 rfl (Nat.le_of_ble_eq_true rfl) dX8_restore_29 ⟨Nat.le_of_ble_eq_true rfl, Nat.le_of_ble_eq_true rfl⟩) (fun r_9 u_9 H locs hw_9 hP hD hS => ?_)
    obtain ⟨rf_9, rfl⟩ : ∃ z, z = u_9 := ⟨_, rfl⟩
    obtain ⟨z1_9, z2_9⟩ := fx_ref1 hw_9
    subst z1_9
    subst z2_9
    have hP : va_P D vwCl [(nw, .inl (tc 0, 357, .inl row)), (kp, .inl (tc 0, 714, .inl kpt)), (ik, .inl (tc 2, 2, .inl isk)), (mo, .inr (8, [.int 1, .ref sc, .int ss, .int sp, .int ig, .int lf, .ref rd, .ref nw, .ref tr, .ref di, .int ac, .ref kp, .ref ik]))] H := hP
    have hD : va_D A [(nw, .inl (tc 0, 357, .inl row)), (kp, .inl (tc 0, 714, .inl kpt)), (ik, .inl (tc 2, 2, .inl isk)), (mo, .inr (8, [.int 1, .ref sc, .int ss, .int sp, .int ig, .int lf, .ref rd, .ref nw, .ref tr, .ref di, .int ac, .ref kp, .ref ik]))] := hD
    refine lv_if_eq (tgt := 37) hx hb dX8_restore_32 (by decide) (fun c_10 => ?_) (fun c_10 => ?_)
    · exact absurd c_10 (by decide)
    · refine lv_iconst (v := 0) hx hb dX8_restore_35 (by decide) ?_
      exact hret _ _ (0) (1, ac, row) _ _ (by rw [mX8_restore]; (try dsimp only); rw [hw_1]; (try dsimp only); rw [if_pos c_2]; (first | done | rfl)) (hP.sub [3, 0, 1, 2] rfl) (hD.sub [3, 0, 1, 2] (by decide) rfl) hS dX8_restore_36
