/-! The reference: queries -/
theorem fx_ref0 {rf ss sp ig lf ac : Int32} {r u : Int32} (h : mX8_refused rf ss sp ig lf ac 0 = (r, u)) : r = 0 ∧ u = 0 := by
  unfold mX8_refused at h
  rw [if_pos (by decide)] at h
  simp only [Prod.mk.injEq] at h
  exact ⟨h.1.symm, h.2.symm⟩
theorem fx_ref1 {rf ss sp ig lf ac : Int32} {r u : Int32} (h : mX8_refused rf ss sp ig lf ac 1 = (r, u)) : r = 1 ∧ u = 1 := by
  unfold mX8_refused at h
  rw [if_neg (by decide)] at h
  simp only [Prod.mk.injEq] at h
  exact ⟨h.1.symm, h.2.symm⟩
theorem fx_ref2 {rf ss sp ig lf ac : Int32} {r u : Int32} (h : mX8_refused rf ss sp ig lf ac 2 = (r, u)) : r = 1 ∧ u = 2 := by
  unfold mX8_refused at h
  rw [if_neg (by decide)] at h
  simp only [Prod.mk.injEq] at h
  exact ⟨h.1.symm, h.2.symm⟩
theorem fx_in3 {a b c : Int64} {r : Int32} (h : mX8_in a b c = r) {A B C : Int} (ha : a.toInt = A) (hb : b.toInt = B) (hc : c.toInt = C) : r = 0 ∨ B ≤ A ∧ A ≤ C := by
  subst h
  subst ha hb hc
  unfold mX8_in
  by_cases h1 : lg_cmp a b < 0
  · rw [if_pos h1]; exact Or.inl rfl
  · rw [if_neg h1]
    by_cases h2 : 0 < lg_cmp a c
    · rw [if_pos h2]; exact Or.inl rfl
    · rw [if_neg h2]
      rw [lg_cmp_lt, Int64.lt_iff_toInt_lt] at h1
      rw [lg_cmp_gt, Int64.lt_iff_toInt_lt] at h2
      exact Or.inr ⟨by omega, by omega⟩
/-- .. and the other way round -/
theorem fx_in4 {a b c : Int64} {A B C : Int} (ha : a.toInt = A) (hb : b.toInt = B) (hc : c.toInt = C) : mX8_in a b c = if B ≤ A ∧ A ≤ C then 1 else 0 := by
  subst ha hb hc
  unfold mX8_in
  by_cases h1 : lg_cmp a b < 0
  · rw [if_pos h1, if_neg]
    rw [lg_cmp_lt, Int64.lt_iff_toInt_lt] at h1
    omega
  · rw [if_neg h1]
    rw [lg_cmp_lt, Int64.lt_iff_toInt_lt] at h1
    by_cases h2 : 0 < lg_cmp a c
    · rw [if_pos h2, if_neg]
      rw [lg_cmp_gt, Int64.lt_iff_toInt_lt] at h2
      omega
    · rw [if_neg h2, if_pos]
      rw [lg_cmp_gt, Int64.lt_iff_toInt_lt] at h2
      omega
theorem fx_nlt {a b : Int32} (h : ¬ a < b) : b.toInt ≤ a.toInt := by
  rw [fc_lt] at h; omega
theorem fx_dec {x : Int32} {i : Nat} (h : x.toInt = (i : Int) - 1) (hi : 1 ≤ i ∧ i ≤ 48) : (x + (-1)).toInt = ((i - 1 : Nat) : Int) - 1 := by
  have b9 := fc_addk (x := x) pz_1 (by omega) (by omega)
  rw [b9]
  omega
theorem RX_18 {m : Nat} {row : Nat → Int32} (h : RXn m row) : 0 ≤ (row (18 : Int32).toNatClampNeg).toInt ∧ (row (18 : Int32).toNatClampNeg).toInt ≤ 10 := by
  obtain ⟨Bd, K, W, C, B, h1, set, holds, count, free, dirty, kc, kl, qc, ql, told, rt, rc, rl, rs, re, rb, te, ca, dr, lo, la, lp, hR⟩ := h
  obtain ⟨⟨-, ⟨⟨-, -, -, n7, n8⟩, -⟩, -⟩, -⟩ := hR
  rw [pl_lit18, n8, fc_nI (by omega)]
  omega
theorem RX_set {m w : Nat} {v : Int32} {row : Nat → Int32} (h : RXn m row) (hw : w < 3) (hv : w = 0 → 0 ≤ v.toInt ∧ v.toInt < 1000) : RXn m (upd row w v) := by
  obtain ⟨Bd, K, W, C, B, h1, set, holds, count, free, dirty, kc, kl, qc, ql, told, rt, rc, rl, rs, re, rb, te, ca, dr, lo, la, lp, hR⟩ := h
  have q := R_set (w := w) (v := v) hR hw (fun z => by
    obtain ⟨e, g1, g2⟩ := fx_nn (hv z).1
    exact ⟨v.toNatClampNeg, by have := (hv z).2; omega, e⟩)
  exact ⟨Bd, K, W, C, B, h1, _, _, _, _, _, _, _, _, _, _, _, _, _, _, _, _, _, _, _, _, _, _, q.2⟩
theorem RX_shoot {m : Nat} {p r : Int32} {row row' : Nat → Int32} (h : RXn (m + 1) row) (hp : 0 ≤ p.toInt) (ht : mX8_shootIn row p = (r, row')) : RXn m row' := by
  obtain ⟨Bd, K, W, C, B, h1, set, holds, count, free, dirty, kc, kl, qc, ql, told, rt, rc, rl, rs, re, rb, te, ca, dr, lo, la, lp, hR⟩ := h
  have w4 := (RR_cnt hR).2.2.2.2.2
  by_cases hW : W < 4
  · obtain ⟨qc', row2, -, e, hR'⟩ := R_receive hR hW hp (by omega)
    rw [ht] at e
    obtain rfl := congrArg Prod.snd e
    exact ⟨Bd + 1, K, W + 1, C, B, by omega, _, _, _, _, _, _, _, _, _, _, _, _, _, _, _, _, _, _, _, _, _, _, hR'⟩
  · obtain rfl : W = 4 := by omega
    obtain ⟨-, row2, e, hR'⟩ := R_receive_full hR hp (by omega)
    rw [ht] at e
    obtain rfl := congrArg Prod.snd e
    exact ⟨Bd + 1, K, 4, C, B, by omega, _, _, _, _, _, _, _, _, _, _, _, _, _, _, _, _, _, _, _, _, _, _, hR'⟩
theorem RX_dropi {m : Nat} {d r : Int32} {row row' : Nat → Int32} (h : RXn m row) (h0 : 0 ≤ d.toInt) (hd : d.toInt < (row (16 : Int32).toNatClampNeg).toInt) (ht : mX8_dropIn row d = (r, row')) : RXn m row' := by
  obtain ⟨Bd, K, W, C, B, h1, set, holds, count, free, dirty, kc, kl, qc, ql, told, rt, rc, rl, rs, re, rb, te, ca, dr, lo, la, lp, hR⟩ := h
  obtain ⟨-, n2, hK, -, -, -⟩ := RR_cnt hR
  obtain ⟨e1, g1, g2⟩ := fx_nn h0
  rw [pl_lit16, n2, fc_nI (by omega)] at hd
  rw [e1] at ht
  obtain ⟨d', h', kc', row2, -, e3, e4⟩ := R_drop hR (show d.toNatClampNeg < K by omega)
  rw [ht] at e3
  obtain rfl := congrArg Prod.snd e3
  exact ⟨Bd, K - 1, W, C, B, h1, _, _, _, _, _, _, _, _, _, _, _, _, _, _, _, _, _, _, _, _, _, _, e4⟩
theorem RX_ticks {m : Nat} {n r : Int32} {row row' : Nat → Int32} (h : RXn (m + 51) row) (hn : n.toInt ≤ 50) (ht : mX8_ticksIn row n = (r, row')) : RXn m row' := by
  obtain ⟨Bd, K, W, C, B, h1, set, holds, count, free, dirty, kc, kl, qc, ql, told, rt, rc, rl, rs, re, rb, te, ca, dr, lo, la, lp, hR⟩ := h
  obtain ⟨K', W', B', r2, free', dirty', holds', kl', kc', ql', qc', rt', rc', rl', rs', re', rb', told', te', dr', la', row2, -, e2, e3⟩ := R_pass hR hn (by omega)
  rw [ht] at e2
  obtain rfl := congrArg Prod.snd e2
  exact ⟨Bd + 51, K', W', C, B', by omega, _, _, _, _, _, _, _, _, _, _, _, _, _, _, _, _, _, _, _, _, _, _, e3⟩
theorem RX_least2 {m : Nat} {r : Int32} {row : Nat → Int32} (h : RXn m row) (ht : mX8_leastOf row = r) : -1 ≤ r.toInt ∧ r.toInt ≤ 48 := by
  obtain ⟨Bd, K, W, C, B, h1, set, holds, count, free, dirty, kc, kl, qc, ql, told, rt, rc, rl, rs, re, rb, te, ca, dr, lo, la, lp, hR⟩ := h
  have hk := (RR_cnt hR).2.2.1
  rcases Nat.eq_zero_or_pos K with z | z
  · subst z
    rw [(R_least0 hR).2] at ht
    subst ht
    decide
  · obtain ⟨d, hd, -, e⟩ := R_least hR z
    rw [e] at ht
    subst ht
    rw [fc_nI (by omega)]
    omega
theorem RX_tryIt {rf ss sp ig lf ac : Int32} {m : Nat} {row trow trow' : Nat → Int32} (ht : mX8_tryIt rf ss sp ig lf ac row trow = trow') (h : RXn m row) : RXn m trow' := by
  obtain ⟨Bd, K, W, C, B, h1, set, holds, count, free, dirty, kc, kl, qc, ql, told, rt, rc, rl, rs, re, rb, te, ca, dr, lo, la, lp, hR⟩ := h
  subst ht
  exact ⟨Bd, K, W, C, B, h1, _, _, _, _, _, _, _, _, _, _, _, _, _, _, _, _, _, _, _, _, _, _, R_rowcopy hR⟩
theorem fx_isTicks8 {n r : Int32} (h : mX8_isTicks n = r) : r = 0 ∨ 1 ≤ n.toInt ∧ n.toInt ≤ 50 :=
  fx_in3 h (Int32.toInt_toInt64 _) (by decide) (by decide)
theorem fx_isPic8 {n r : Int32} (h : mX8_isPicture n = r) : r = 0 ∨ 0 ≤ n.toInt ∧ n.toInt ≤ 999999 :=
  fx_in3 h (Int32.toInt_toInt64 _) (by decide) (by decide)
theorem fx_isSet8v {w v r : Int32} (h : mX8_isSetting w v = r) : r = 0 ∨ (w = 0 ∧ 0 ≤ v.toInt ∧ v.toInt ≤ 8) ∨ (w = 1 ∧ 0 ≤ v.toInt ∧ v.toInt ≤ 9) ∨ (w = 2 ∧ 1 ≤ v.toInt ∧ v.toInt ≤ 20) := by
  subst h
  unfold mX8_isSetting
  by_cases h0 : w = 0
  · rw [if_pos h0, fx_in4 (Int32.toInt_toInt64 _) (show (0 : Int64).toInt = 0 by decide) (show (8 : Int64).toInt = 8 by decide)]
    by_cases q : 0 ≤ v.toInt ∧ v.toInt ≤ 8
    · exact Or.inr (Or.inl ⟨h0, q⟩)
    · rw [if_neg q]; exact Or.inl rfl
  · rw [if_neg h0]
    by_cases h1 : w = 1
    · rw [if_pos h1, fx_in4 (Int32.toInt_toInt64 _) (show (0 : Int64).toInt = 0 by decide) (show (9 : Int64).toInt = 9 by decide)]
      by_cases q : 0 ≤ v.toInt ∧ v.toInt ≤ 9
      · exact Or.inr (Or.inr (Or.inl ⟨h1, q⟩))
      · rw [if_neg q]; exact Or.inl rfl
    · rw [if_neg h1]
      by_cases h2 : w = 2
      · rw [if_pos h2, fx_in4 (Int32.toInt_toInt64 _) (show (1 : Int64).toInt = 1 by decide) (show (20 : Int64).toInt = 20 by decide)]
        by_cases q : 1 ≤ v.toInt ∧ v.toInt ≤ 20
        · exact Or.inr (Or.inr (Or.inr ⟨h2, q⟩))
        · rw [if_neg q]; exact Or.inl rfl
      · rw [if_neg h2]; exact Or.inl rfl
theorem fx_isSet8 {w v r : Int32} (h : mX8_isSetting w v = r) : r = 0 ∨ 0 ≤ w.toInt ∧ w.toInt ≤ 2 := by
  rcases fx_isSet8v h with q | q | q | q
  · exact Or.inl q
  all_goals (rw [q.1]; exact Or.inr (by decide))
theorem fx_isSet01 {w v r : Int32} (h : mX8_isSetting w v = r) : r = 0 ∨ r = 1 := by
  subst h
  unfold mX8_isSetting
  dsimp only
  repeat' split
  all_goals first | exact Or.inl rfl | exact Or.inr rfl
theorem fx_room8 {p r : Int32} (h : mX8_sizeOf p = r) (h0 : 0 ≤ p.toInt ∧ p.toInt ≤ 54) : ¬ r = 0 := by
  subst h
  exact fx_room h0
--# X8_append
theorem hd_X8_refused : yX8_refused.cls = RX8 ∧ yX8_refused.cls ≠ "java/lang/invoke/MethodHandle" ∧ yX8_refused.cls ≠ "java/lang/invoke/VarHandle" ∧ (parseMethodDescriptor yX8_refused.desc).map (fun d => d.parameters.length) = some 1 := by decide +kernel
theorem hd_X8_refusedn : yX8_refused.cls ≠ "java/lang/invoke/MethodHandle" ∧ yX8_refused.cls ≠ "java/lang/invoke/VarHandle" ∧ (parseMethodDescriptor yX8_refused.desc).map (fun d => d.parameters.length) = some 1 := by decide +kernel
noncomputable def mX8_append (rf : Int32) (ss : Int32) (sp : Int32) (ig : Int32) (lf : Int32) (ac : Int32) (scr : Nat → Int32) (p0 : Int32) : Int32 × Int32 × Int32 × (Nat → Int32) :=
  let r_1 := mX8_in p0.toInt64 0 255
  if r_1 = 0 then
    (0, 1, ss, scr)
  else
    if ss = 120 then
      (0, 2, ss, scr)
    else
      let scr_6 := (upd scr ss.toNatClampNeg p0)
      ((ss + 1), 0, (ss + 1), scr_6)
set_option maxRecDepth 20000 in
theorem iX8_append_X8 : ∀ w ∈ wsX80, w ∈ wsX8_append := by decide +kernel
abbrev rmX8_append : Room := { frames := 1, cells := 0, slots := 0, locals := 25 }
set_option maxHeartbeats 4000000 in
set_option maxRecDepth 100000 in
theorem c_X8_append (l : Launch) (D : va_G) (tc : Nat → ClassId) (mo : Nat) (sc : Nat) (rd : Nat) (nw : Nat) (tr : Nat) (di : Nat) (kp : Nat) (ik : Nat) (rf : Int32) (ss : Int32) (sp : Int32) (ig : Int32) (lf : Int32) (ac : Int32) (scr : Nat → Int32) (p0 : Int32) (sz : Nat) (hss : 0 ≤ ss.toInt ∧ ss.toInt ≤ 120) : Met l yX8_append wsX8_append rmX8_append (va_Pc [.ref mo, .int p0] (fcB D tc [(mo, .inr (8, [.int rf, .ref sc, .int ss, .int sp, .int ig, .int lf, .ref rd, .ref nw, .ref tr, .ref di, .int ac, .ref kp, .ref ik])), (sc, .inl (tc 0, 120, .inl scr))] sz)) (va_Qi (fun (r : Int32) (u : Int32 × Int32 × (Nat → Int32)) => mX8_append rf ss sp ig lf ac scr p0 = (r, u)) (fun u t => fcO D (va_A [(mo, .inr (8, [.int rf, .ref sc, .int ss, .int sp, .int ig, .int lf, .ref rd, .ref nw, .ref tr, .ref di, .int ac, .ref kp, .ref ik])), (sc, .inl (tc 0, 120, .inl scr))] sz) ((fun (u : Int32 × Int32 × (Nat → Int32)) => [(mo, .inr (8, [.int (u.1), .ref sc, .int (u.2.1), .int sp, .int ig, .int lf, .ref rd, .ref nw, .ref tr, .ref di, .int ac, .ref kp, .ref ik])), (sc, .inl (tc 0, 120, .inl (u.2.2)))]) u) t) (va_A [(mo, .inr (8, [.int rf, .ref sc, .int ss, .int sp, .int ig, .int lf, .ref rd, .ref nw, .ref tr, .ref di, .int ac, .ref kp, .ref ik])), (sc, .inl (tc 0, 120, .inl scr))] sz)) 0 0 (va_A [(mo, .inr (8, [.int rf, .ref sc, .int ss, .int sp, .int ig, .int lf, .ref rd, .ref nw, .ref tr, .ref di, .int ac, .ref kp, .ref ik])), (sc, .inl (tc 0, 120, .inl scr))] sz) := by
  refine fc_ofWi (own := RX8) (cc := cX8_append) (maxL := 2) (W1 := (fun (u : Int32 × Int32 × (Nat → Int32)) => [(mo, .inr (8, [.int (u.1), .ref sc, .int (u.2.1), .int sp, .int ig, .int lf, .ref rd, .ref nw, .ref tr, .ref di, .int ac, .ref kp, .ref ik])), (sc, .inl (tc 0, 120, .inl (u.2.2)))])) rfl (by decide) rfl (Nat.le_of_ble_eq_true rfl) ?_
  intro p e s m args below meth c A Q hx hb hml hown hts hK hE hP hD hS hA hin hret ls hl
  have hl : lv_has ls 2 [(0, .ref mo), (1, .int p0)] := hl
  refine lv_aload_n hx hb dX8_append_0 rfl (lv_at hl 0 rfl) ?_
  refine lv_iload_n hx hb dX8_append_1 rfl (lv_at hl 1 rfl) ?_
  refine lv_i2l hx hb dX8_append_2 rfl ?_
  refine lv_lconst (v := 0) hx hb dX8_append_3 (by decide) ?_
  refine lv_ldc2 (v := 255) hx hb hown (hts (.constantLong RX8 94 255) (by decide +kernel)) dX8_append_4 ?_
  refine fc_goi (isC := []) (isR := [0, 1]) (wc := []) (wr := [(mo, .inr (8, [.int rf, .ref sc, .int ss, .int sp, .int ig, .int lf, .ref rd, .ref nw, .ref tr, .ref di, .int ac, .ref kp, .ref ik])), (sc, .inl (tc 0, 120, .inl scr))]) hP hD hS hA rfl rfl (by decide) (by decide) (fc_runS (isC := []) (As := [.long p0.toInt64, .long 0, .long 255]) (rest := [.ref mo]) hx hb hml hown hts hK hE hP hD hS hA rfl (by decide) (c_X8_in l D tc p0.toInt64 0 255 _ ) (cwS 3 hts gX8_append_X8_in rfl rfl rfl hd_X8_in ⟨Nat.le_of_ble_eq_true rfl, Nat.le_of_ble_eq_true rfl⟩) rfl hl.1 rfl (Nat.le_of_ble_eq_true rfl) dX8_append_7 ⟨Nat.le_of_ble_eq_true rfl, Nat.le_of_ble_eq_true rfl⟩) (fun r_1 u_1 H locs hw_1 hP hD hS => ?_)
  try dsimp only at hw_1
  have hP : va_P D vwCl [(mo, .inr (8, [.int rf, .ref sc, .int ss, .int sp, .int ig, .int lf, .ref rd, .ref nw, .ref tr, .ref di, .int ac, .ref kp, .ref ik])), (sc, .inl (tc 0, 120, .inl scr))] H := hP
  have hD : va_D A [(mo, .inr (8, [.int rf, .ref sc, .int ss, .int sp, .int ig, .int lf, .ref rd, .ref nw, .ref tr, .ref di, .int ac, .ref kp, .ref ik])), (sc, .inl (tc 0, 120, .inl scr))] := hD
  have hi_1 := fx_in3 hw_1 (A := p0.toInt) (B := 0) (C := 255) (Int32.toInt_toInt64 _) (by decide) (by decide)
  refine lv_if_ne (tgt := 17) hx hb dX8_append_10 (by decide) (fun c_2 => ?_) (fun c_2 => ?_)
  · have hj_1 := hi_1.resolve_left c_2
    refine lv_aload_n hx hb dX8_append_17 rfl (lv_at hl 0 rfl) ?_
    refine va_get (D := D) (ci := 8) (v := .int ss) (C := RX8) (T := TX8) (N := 13) hx hb hts iX8_append_X8 hown hK hP 0 rfl rfl 2 (by decide) (hts (.fieldLink RX8 100 "FrameCardModel" "scriptSize" "I") (by decide +kernel)) (fun _ h9 => h9) rfl dX8_append_18 ?_
    refine lv_bipush (v := 120) hx hb dX8_append_21 (by decide) ?_
    refine lv_icmp_ne (tgt := 30) hx hb dX8_append_23 (by decide) (fun c_3 => ?_) (fun c_3 => ?_)
    · refine lv_iconst (v := 0) hx hb dX8_append_30 (by decide) ?_
      refine fc_goi (isC := [0]) (isR := [1]) (wc := [(mo, .inr (8, [.int rf, .ref sc, .int ss, .int sp, .int ig, .int lf, .ref rd, .ref nw, .ref tr, .ref di, .int ac, .ref kp, .ref ik]))]) (wr := [(sc, .inl (tc 0, 120, .inl scr))]) hP hD hS hA rfl rfl (by decide) (by decide) (fc_runV (isC := [0]) (As := [.int 0]) (rest := []) hx hb hml hown hts hK hE hP hD hS hA rfl (by decide) (c_X8_refused l D tc mo sc rd nw tr di kp ik rf ss sp ig lf ac 0 _ ) (cwV 1 hts gX8_append_X8_refused rfl rfl rfl hd_X8_refused ⟨Nat.le_of_ble_eq_true rfl, Nat.le_of_ble_eq_true rfl⟩) (ci := 8) rfl rfl rfl rfl hl.1 rfl (Nat.le_of_ble_eq_true rfl) dX8_append_31 ⟨Nat.le_of_ble_eq_true rfl, Nat.le_of_ble_eq_true rfl⟩) (fun r_4 u_4 H locs hw_4 hP hD hS => ?_)
      obtain ⟨rf_4, rfl⟩ : ∃ z, z = u_4 := ⟨_, rfl⟩
      obtain ⟨z1_4, z2_4⟩ := fx_ref0 hw_4
      subst z1_4
      subst z2_4
      have hP : va_P D vwCl [(sc, .inl (tc 0, 120, .inl scr)), (mo, .inr (8, [.int 0, .ref sc, .int ss, .int sp, .int ig, .int lf, .ref rd, .ref nw, .ref tr, .ref di, .int ac, .ref kp, .ref ik]))] H := hP
      have hD : va_D A [(sc, .inl (tc 0, 120, .inl scr)), (mo, .inr (8, [.int 0, .ref sc, .int ss, .int sp, .int ig, .int lf, .ref rd, .ref nw, .ref tr, .ref di, .int ac, .ref kp, .ref ik]))] := hD
      refine lv_if_eq (tgt := 39) hx hb dX8_append_34 (by decide) (fun c_5 => ?_) (fun c_5 => ?_)
      · refine lv_aload_n hx hb dX8_append_39 rfl (lv_at hl 0 rfl) ?_
        refine va_get (D := D) (ci := 8) (v := .ref sc) (C := RX8) (T := TX8) (N := 13) hx hb hts iX8_append_X8 hown hK hP 1 rfl rfl 1 (by decide) (hts (.fieldLink RX8 7 "FrameCardModel" "script" "[I") (by decide +kernel)) (fun _ h9 => h9) rfl dX8_append_40 ?_
        refine lv_aload_n hx hb dX8_append_43 rfl (lv_at hl 0 rfl) ?_
        refine va_get (D := D) (ci := 8) (v := .int ss) (C := RX8) (T := TX8) (N := 13) hx hb hts iX8_append_X8 hown hK hP 1 rfl rfl 2 (by decide) (hts (.fieldLink RX8 100 "FrameCardModel" "scriptSize" "I") (by decide +kernel)) (fun _ h9 => h9) rfl dX8_append_44 ?_
        refine lv_iload_n hx hb dX8_append_47 rfl (lv_at hl 1 rfl) ?_
        refine va_iast (D := D) hx hb hK hP hD hS 0 0 rfl rfl (by have l_0 : (0 : Int32).toInt = 0 := (by decide); have l_1 : (1 : Int32).toInt = 1 := (by decide); have l_120 : (120 : Int32).toInt = 120 := (by decide); have l_2 : (2 : Int32).toInt = 2 := (by decide); have l_255 : (255 : Int32).toInt = 255 := (by decide); have l_3 : (3 : Int32).toInt = 3 := (by decide); have l_4 : (4 : Int32).toInt = 4 := (by decide); have qc_2 := c_2; (try simp only [fc_le, fc_lt, fc_eq] at qc_2); have qc_3 := c_3; (try simp only [fc_le, fc_lt, fc_eq] at qc_3); have qhj_1 := hj_1; (try simp only [fc_le, fc_lt, fc_eq] at qhj_1); rw [vp_in_iff]; omega) dX8_append_48 (fun H locs hP hD hS => ?_)
        have hP : va_P D vwCl [(sc, .inl (tc 0, 120, .inl (upd scr ss.toNatClampNeg p0))), (mo, .inr (8, [.int 0, .ref sc, .int ss, .int sp, .int ig, .int lf, .ref rd, .ref nw, .ref tr, .ref di, .int ac, .ref kp, .ref ik]))] H := hP
        have hD : va_D A [(sc, .inl (tc 0, 120, .inl (upd scr ss.toNatClampNeg p0))), (mo, .inr (8, [.int 0, .ref sc, .int ss, .int sp, .int ig, .int lf, .ref rd, .ref nw, .ref tr, .ref di, .int ac, .ref kp, .ref ik]))] := hD
        obtain ⟨scr_6, hw_6⟩ : ∃ z, (upd scr ss.toNatClampNeg p0) = z := ⟨_, rfl⟩
        rw [hw_6] at hP hD
        refine lv_aload_n hx hb dX8_append_49 rfl (lv_at hl 0 rfl) ?_
        refine lv_dup hx hb dX8_append_50 rfl ?_
        refine va_get (D := D) (ci := 8) (v := .int ss) (C := RX8) (T := TX8) (N := 13) hx hb hts iX8_append_X8 hown hK hP 1 rfl rfl 2 (by decide) (hts (.fieldLink RX8 100 "FrameCardModel" "scriptSize" "I") (by decide +kernel)) (fun _ h9 => h9) rfl dX8_append_51 ?_
        refine lv_iconst (v := 1) hx hb dX8_append_54 (by decide) ?_
        refine lv_iadd hx hb dX8_append_55 ?_
        refine va_put (D := D) (ci := 8) (v := .int (ss + 1)) (ty := .int) (C := RX8) (T := TX8) (N := 13) hx hb hts iX8_append_X8 tyX8 tyX8_ok nmX8 hown hK hP hD hS 1 rfl rfl 2 (by decide) (hts (.fieldLink RX8 100 "FrameCardModel" "scriptSize" "I") (by decide +kernel)) (fun _ h9 => h9) rfl (by decide +kernel) rfl rfl (Nat.le_of_ble_eq_true rfl) dX8_append_56 (fun H locs hP hD hS => ?_)
        have hP : va_P D vwCl [(sc, .inl (tc 0, 120, .inl scr_6)), (mo, .inr (8, [.int 0, .ref sc, .int (ss + 1), .int sp, .int ig, .int lf, .ref rd, .ref nw, .ref tr, .ref di, .int ac, .ref kp, .ref ik]))] H := hP
        have hD : va_D A [(sc, .inl (tc 0, 120, .inl scr_6)), (mo, .inr (8, [.int 0, .ref sc, .int (ss + 1), .int sp, .int ig, .int lf, .ref rd, .ref nw, .ref tr, .ref di, .int ac, .ref kp, .ref ik]))] := hD
        refine lv_aload_n hx hb dX8_append_59 rfl (lv_at hl 0 rfl) ?_
        refine va_get (D := D) (ci := 8) (v := .int (ss + 1)) (C := RX8) (T := TX8) (N := 13) hx hb hts iX8_append_X8 hown hK hP 1 rfl rfl 2 (by decide) (hts (.fieldLink RX8 100 "FrameCardModel" "scriptSize" "I") (by decide +kernel)) (fun _ h9 => h9) rfl dX8_append_60 ?_
        exact hret _ _ (ss + 1) (0, (ss + 1), scr_6) _ _ (by rw [mX8_append]; (try dsimp only); rw [hw_1]; (try dsimp only); rw [if_neg c_2]; rw [if_neg c_3]; rw [hw_6]; (try dsimp only); (first | done | rfl)) (hP.sub [1, 0] rfl) (hD.sub [1, 0] (by decide) rfl) hS dX8_append_63
      · exact absurd (by decide) c_5
    · refine lv_iconst (v := 2) hx hb dX8_append_26 (by decide) ?_
      refine lv_goto (tgt := 31) hx hb dX8_append_27 (by decide) ?_
      refine fc_goi (isC := [0]) (isR := [1]) (wc := [(mo, .inr (8, [.int rf, .ref sc, .int ss, .int sp, .int ig, .int lf, .ref rd, .ref nw, .ref tr, .ref di, .int ac, .ref kp, .ref ik]))]) (wr := [(sc, .inl (tc 0, 120, .inl scr))]) hP hD hS hA rfl rfl (by decide) (by decide) (fc_runV (isC := [0]) (As := [.int 2]) (rest := []) hx hb hml hown hts hK hE hP hD hS hA rfl (by decide) (c_X8_refused l D tc mo sc rd nw tr di kp ik rf ss sp ig lf ac 2 _ ) (cwV 1 hts gX8_append_X8_refused rfl rfl rfl hd_X8_refused ⟨Nat.le_of_ble_eq_true rfl, Nat.le_of_ble_eq_true rfl⟩) (ci := 8) rfl rfl rfl rfl hl.1 rfl (Nat.le_of_ble_eq_true rfl) dX8_append_31 ⟨Nat.le_of_ble_eq_true rfl, Nat.le_of_ble_eq_true rfl⟩) (fun r_7 u_7 H locs hw_7 hP hD hS => ?_)
      obtain ⟨rf_7, rfl⟩ : ∃ z, z = u_7 := ⟨_, rfl⟩
      obtain ⟨z1_7, z2_7⟩ := fx_ref2 hw_7
      subst z1_7
      subst z2_7
      have hP : va_P D vwCl [(sc, .inl (tc 0, 120, .inl scr)), (mo, .inr (8, [.int 2, .ref sc, .int ss, .int sp, .int ig, .int lf, .ref rd, .ref nw, .ref tr, .ref di, .int ac, .ref kp, .ref ik]))] H := hP
      have hD : va_D A [(sc, .inl (tc 0, 120, .inl scr)), (mo, .inr (8, [.int 2, .ref sc, .int ss, .int sp, .int ig, .int lf, .ref rd, .ref nw, .ref tr, .ref di, .int ac, .ref kp, .ref ik]))] := hD
      refine lv_if_eq (tgt := 39) hx hb dX8_append_34 (by decide) (fun c_8 => ?_) (fun c_8 => ?_)
      · exact absurd c_8 (by decide)
      · refine lv_iconst (v := 0) hx hb dX8_append_37 (by decide) ?_
        exact hret _ _ (0) (2, ss, scr) _ _ (by rw [mX8_append]; (try dsimp only); rw [hw_1]; (try dsimp only); rw [if_neg c_2]; rw [if_pos c_3]; (first | done | rfl)) (hP.sub [1, 0] rfl) (hD.sub [1, 0] (by decide) rfl) hS dX8_append_38
  · refine lv_iconst (v := 1) hx hb dX8_append_13 (by decide) ?_
    refine lv_goto (tgt := 31) hx hb dX8_append_14 (by decide) ?_
    refine fc_goi (isC := [0]) (isR := [1]) (wc := [(mo, .inr (8, [.int rf, .ref sc, .int ss, .int sp, .int ig, .int lf, .ref rd, .ref nw, .ref tr, .ref di, .int ac, .ref kp, .ref ik]))]) (wr := [(sc, .inl (tc 0, 120, .inl scr))]) hP hD hS hA rfl rfl (by decide) (by decide) (fc_runV (isC := [0]) (As := [.int 1]) (rest := []) hx hb hml hown hts hK hE hP hD hS hA rfl (by decide) (c_X8_refused l D tc mo sc rd nw tr di kp ik rf ss sp ig lf ac 1 _ ) (cwV 1 hts gX8_append_X8_refused rfl rfl rfl hd_X8_refused ⟨Nat.le_of_ble_eq_true rfl, Nat.le_of_ble_eq_true rfl⟩) (ci := 8) rfl rfl rfl rfl hl.1 rfl (Nat.le_of_ble_eq_true rfl) dX8_append_31 ⟨Nat.le_of_ble_eq_true rfl, Nat.le_of_ble_eq_true rfl⟩) (fun r_9 u_9 H locs hw_9 hP hD hS => ?_)
    obtain ⟨rf_9, rfl⟩ : ∃ z, z = u_9 := ⟨_, rfl⟩
    obtain ⟨z1_9, z2_9⟩ := fx_ref1 hw_9
    subst z1_9
    subst z2_9
    have hP : va_P D vwCl [(sc, .inl (tc 0, 120, .inl scr)), (mo, .inr (8, [.int 1, .ref sc, .int ss, .int sp, .int ig, .int lf, .ref rd, .ref nw, .ref tr, .ref di, .int ac, .ref kp, .ref ik]))] H := hP
    have hD : va_D A [(sc, .inl (tc 0, 120, .inl scr)), (mo, .inr (8, [.int 1, .ref sc, .int ss, .int sp, .int ig, .int lf, .ref rd, .ref nw, .ref tr, .ref di, .int ac, .ref kp, .ref ik]))] := hD
    refine lv_if_eq (tgt := 39) hx hb dX8_append_34 (by decide) (fun c_10 => ?_) (fun c_10 => ?_)
    · exact absurd c_10 (by decide)
    · refine lv_iconst (v := 0) hx hb dX8_append_37 (by decide) ?_
      exact hret _ _ (0) (1, ss, scr) _ _ (by rw [mX8_append]; (try dsimp only); rw [hw_1]; (try dsimp only); rw [if_pos c_2]; (first | done | rfl)) (hP.sub [1, 0] rfl) (hD.sub [1, 0] (by decide) rfl) hS dX8_append_38
--# X8_isFrame
noncomputable def mX8_isFrame (rf : Int32) (ss : Int32) (sp : Int32) (ig : Int32) (lf : Int32) (ac : Int32) (row : Nat → Int32) (p0 : Int32) : Int32 :=
  let r_1 := mX8_in p0.toInt64 0 ((((row (16 : Int32).toNatClampNeg) - 1) : Int32).toInt64)
  r_1
set_option maxRecDepth 20000 in
theorem iX8_isFrame_X8 : ∀ w ∈ wsX80, w ∈ wsX8_isFrame := by decide +kernel
abbrev rmX8_isFrame : Room := { frames := 1, cells := 0, slots := 0, locals := 25 }
set_option maxHeartbeats 4000000 in
set_option maxRecDepth 100000 in
theorem c_X8_isFrame (l : Launch) (D : va_G) (tc : Nat → ClassId) (mo : Nat) (sc : Nat) (rd : Nat) (nw : Nat) (tr : Nat) (di : Nat) (kp : Nat) (ik : Nat) (rf : Int32) (ss : Int32) (sp : Int32) (ig : Int32) (lf : Int32) (ac : Int32) (row : Nat → Int32) (p0 : Int32) (sz : Nat) : Met l yX8_isFrame wsX8_isFrame rmX8_isFrame (va_Pc [.ref mo, .int p0] (fcB D tc [(mo, .inr (8, [.int rf, .ref sc, .int ss, .int sp, .int ig, .int lf, .ref rd, .ref nw, .ref tr, .ref di, .int ac, .ref kp, .ref ik])), (nw, .inl (tc 0, 357, .inl row))] sz)) (va_Qi (fun (r : Int32) (_ : Unit) => mX8_isFrame rf ss sp ig lf ac row p0 = r) (fun u t => fcO D (va_A [(mo, .inr (8, [.int rf, .ref sc, .int ss, .int sp, .int ig, .int lf, .ref rd, .ref nw, .ref tr, .ref di, .int ac, .ref kp, .ref ik])), (nw, .inl (tc 0, 357, .inl row))] sz) ((fun (_ : Unit) => [(mo, .inr (8, [.int rf, .ref sc, .int ss, .int sp, .int ig, .int lf, .ref rd, .ref nw, .ref tr, .ref di, .int ac, .ref kp, .ref ik])), (nw, .inl (tc 0, 357, .inl row))]) u) t) (va_A [(mo, .inr (8, [.int rf, .ref sc, .int ss, .int sp, .int ig, .int lf, .ref rd, .ref nw, .ref tr, .ref di, .int ac, .ref kp, .ref ik])), (nw, .inl (tc 0, 357, .inl row))] sz)) 0 0 (va_A [(mo, .inr (8, [.int rf, .ref sc, .int ss, .int sp, .int ig, .int lf, .ref rd, .ref nw, .ref tr, .ref di, .int ac, .ref kp, .ref ik])), (nw, .inl (tc 0, 357, .inl row))] sz) := by
  refine fc_ofWz (own := RX8) (cc := cX8_isFrame) (maxL := 2) (W1 := (fun (_ : Unit) => [(mo, .inr (8, [.int rf, .ref sc, .int ss, .int sp, .int ig, .int lf, .ref rd, .ref nw, .ref tr, .ref di, .int ac, .ref kp, .ref ik])), (nw, .inl (tc 0, 357, .inl row))])) rfl (by decide) rfl (Nat.le_of_ble_eq_true rfl) ?_
  intro p e s m args below meth c A Q hx hb hml hown hts hK hE hP hD hS hA hin hret ls hl
  have hl : lv_has ls 2 [(0, .ref mo), (1, .int p0)] := hl
  refine lv_iload_n hx hb dX8_isFrame_0 rfl (lv_at hl 1 rfl) ?_
  refine lv_i2l hx hb dX8_isFrame_1 rfl ?_
  refine lv_lconst (v := 0) hx hb dX8_isFrame_2 (by decide) ?_
  refine lv_aload_n hx hb dX8_isFrame_3 rfl (lv_at hl 0 rfl) ?_
  refine va_get (D := D) (ci := 8) (v := .ref nw) (C := RX8) (T := TX8) (N := 13) hx hb hts iX8_isFrame_X8 hown hK hP 0 rfl rfl 7 (by decide) (hts (.fieldLink RX8 16 "FrameCardModel" "now" "[I") (by decide +kernel)) (fun _ h9 => h9) rfl dX8_isFrame_4 ?_
  refine lv_bipush (v := 16) hx hb dX8_isFrame_7 (by decide) ?_
  refine va_iald (D := D) hx hb hK hP 1 0 rfl rfl (vp_in_iff.mpr (by decide)) dX8_isFrame_9 ?_
  refine lv_iconst (v := 1) hx hb dX8_isFrame_10 (by decide) ?_
  refine lv_isub hx hb dX8_isFrame_11 ?_
  refine lv_i2l hx hb dX8_isFrame_12 rfl ?_
  refine fc_goi (isC := []) (isR := [0, 1]) (wc := []) (wr := [(mo, .inr (8, [.int rf, .ref sc, .int ss, .int sp, .int ig, .int lf, .ref rd, .ref nw, .ref tr, .ref di, .int ac, .ref kp, .ref ik])), (nw, .inl (tc 0, 357, .inl row))]) hP hD hS hA rfl rfl (by decide) (by decide) (fc_runS (isC := []) (As := [.long p0.toInt64, .long 0, .long (((row (16 : Int32).toNatClampNeg) - 1) : Int32).toInt64]) (rest := []) hx hb hml hown hts hK hE hP hD hS hA rfl (by decide) (c_X8_in l D tc p0.toInt64 0 ((((row (16 : Int32).toNatClampNeg) - 1) : Int32).toInt64) _ ) (cwS 3 hts gX8_isFrame_X8_in rfl rfl rfl hd_X8_in ⟨Nat.le_of_ble_eq_true rfl, Nat.le_of_ble_eq_true rfl⟩) rfl hl.1 rfl (Nat.le_of_ble_eq_true rfl) dX8_isFrame_13 ⟨Nat.le_of_ble_eq_true rfl, Nat.le_of_ble_eq_true rfl⟩) (fun r_1 u_1 H locs hw_1 hP hD hS => ?_)
  try dsimp only at hw_1
  have hP : va_P D vwCl [(mo, .inr (8, [.int rf, .ref sc, .int ss, .int sp, .int ig, .int lf, .ref rd, .ref nw, .ref tr, .ref di, .int ac, .ref kp, .ref ik])), (nw, .inl (tc 0, 357, .inl row))] H := hP
  have hD : va_D A [(mo, .inr (8, [.int rf, .ref sc, .int ss, .int sp, .int ig, .int lf, .ref rd, .ref nw, .ref tr, .ref di, .int ac, .ref kp, .ref ik])), (nw, .inl (tc 0, 357, .inl row))] := hD
  have hi_1 := fx_in3 hw_1 (A := p0.toInt) (B := 0) (C := ((row (16 : Int32).toNatClampNeg) - 1).toInt) (Int32.toInt_toInt64 _) (by decide) (Int32.toInt_toInt64 _)
  exact hret _ _ (r_1) () _ _ (fx_in01 hw_1) (by rw [mX8_isFrame]; (try dsimp only); rw [hw_1]; (try dsimp only); (first | done | rfl)) (hP.sub [0, 1] rfl) (hD.sub [0, 1] (by decide) rfl) hS dX8_isFrame_16
theorem fx_isFrame {rf ss sp ig lf ac : Int32} {row : Nat → Int32} {p r : Int32} (h : mX8_isFrame rf ss sp ig lf ac row p = r) (hk : 0 ≤ (row (16 : Int32).toNatClampNeg).toInt ∧ (row (16 : Int32).toNatClampNeg).toInt ≤ 48) : r = 0 ∨ 0 ≤ p.toInt ∧ p.toInt ≤ (row (16 : Int32).toNatClampNeg).toInt - 1 := by
  refine fx_in3 (a := p.toInt64) (b := 0) (c := ((row (16 : Int32).toNatClampNeg) - 1).toInt64) h (Int32.toInt_toInt64 _) (by decide) ?_
  rw [Int32.toInt_toInt64]
  exact fc_subk (by decide) (by omega) (by omega)
--# X8_isWaiting
noncomputable def mX8_isWaiting (rf : Int32) (ss : Int32) (sp : Int32) (ig : Int32) (lf : Int32) (ac : Int32) (row : Nat → Int32) (p0 : Int32) : Int32 :=
  let r_1 := mX8_in p0.toInt64 0 ((((row (17 : Int32).toNatClampNeg) - 1) : Int32).toInt64)
  r_1
set_option maxRecDepth 20000 in
theorem iX8_isWaiting_X8 : ∀ w ∈ wsX80, w ∈ wsX8_isWaiting := by decide +kernel
abbrev rmX8_isWaiting : Room := { frames := 1, cells := 0, slots := 0, locals := 25 }
set_option maxHeartbeats 4000000 in
set_option maxRecDepth 100000 in
theorem c_X8_isWaiting (l : Launch) (D : va_G) (tc : Nat → ClassId) (mo : Nat) (sc : Nat) (rd : Nat) (nw : Nat) (tr : Nat) (di : Nat) (kp : Nat) (ik : Nat) (rf : Int32) (ss : Int32) (sp : Int32) (ig : Int32) (lf : Int32) (ac : Int32) (row : Nat → Int32) (p0 : Int32) (sz : Nat) : Met l yX8_isWaiting wsX8_isWaiting rmX8_isWaiting (va_Pc [.ref mo, .int p0] (fcB D tc [(mo, .inr (8, [.int rf, .ref sc, .int ss, .int sp, .int ig, .int lf, .ref rd, .ref nw, .ref tr, .ref di, .int ac, .ref kp, .ref ik])), (nw, .inl (tc 0, 357, .inl row))] sz)) (va_Qi (fun (r : Int32) (_ : Unit) => mX8_isWaiting rf ss sp ig lf ac row p0 = r) (fun u t => fcO D (va_A [(mo, .inr (8, [.int rf, .ref sc, .int ss, .int sp, .int ig, .int lf, .ref rd, .ref nw, .ref tr, .ref di, .int ac, .ref kp, .ref ik])), (nw, .inl (tc 0, 357, .inl row))] sz) ((fun (_ : Unit) => [(mo, .inr (8, [.int rf, .ref sc, .int ss, .int sp, .int ig, .int lf, .ref rd, .ref nw, .ref tr, .ref di, .int ac, .ref kp, .ref ik])), (nw, .inl (tc 0, 357, .inl row))]) u) t) (va_A [(mo, .inr (8, [.int rf, .ref sc, .int ss, .int sp, .int ig, .int lf, .ref rd, .ref nw, .ref tr, .ref di, .int ac, .ref kp, .ref ik])), (nw, .inl (tc 0, 357, .inl row))] sz)) 0 0 (va_A [(mo, .inr (8, [.int rf, .ref sc, .int ss, .int sp, .int ig, .int lf, .ref rd, .ref nw, .ref tr, .ref di, .int ac, .ref kp, .ref ik])), (nw, .inl (tc 0, 357, .inl row))] sz) := by
  refine fc_ofWz (own := RX8) (cc := cX8_isWaiting) (maxL := 2) (W1 := (fun (_ : Unit) => [(mo, .inr (8, [.int rf, .ref sc, .int ss, .int sp, .int ig, .int lf, .ref rd, .ref nw, .ref tr, .ref di, .int ac, .ref kp, .ref ik])), (nw, .inl (tc 0, 357, .inl row))])) rfl (by decide) rfl (Nat.le_of_ble_eq_true rfl) ?_
  intro p e s m args below meth c A Q hx hb hml hown hts hK hE hP hD hS hA hin hret ls hl
  have hl : lv_has ls 2 [(0, .ref mo), (1, .int p0)] := hl
  refine lv_iload_n hx hb dX8_isWaiting_0 rfl (lv_at hl 1 rfl) ?_
  refine lv_i2l hx hb dX8_isWaiting_1 rfl ?_
  refine lv_lconst (v := 0) hx hb dX8_isWaiting_2 (by decide) ?_
  refine lv_aload_n hx hb dX8_isWaiting_3 rfl (lv_at hl 0 rfl) ?_
  refine va_get (D := D) (ci := 8) (v := .ref nw) (C := RX8) (T := TX8) (N := 13) hx hb hts iX8_isWaiting_X8 hown hK hP 0 rfl rfl 7 (by decide) (hts (.fieldLink RX8 16 "FrameCardModel" "now" "[I") (by decide +kernel)) (fun _ h9 => h9) rfl dX8_isWaiting_4 ?_
  refine lv_bipush (v := 17) hx hb dX8_isWaiting_7 (by decide) ?_
  refine va_iald (D := D) hx hb hK hP 1 0 rfl rfl (vp_in_iff.mpr (by decide)) dX8_isWaiting_9 ?_
  refine lv_iconst (v := 1) hx hb dX8_isWaiting_10 (by decide) ?_
  refine lv_isub hx hb dX8_isWaiting_11 ?_
  refine lv_i2l hx hb dX8_isWaiting_12 rfl ?_
  refine fc_goi (isC := []) (isR := [0, 1]) (wc := []) (wr := [(mo, .inr (8, [.int rf, .ref sc, .int ss, .int sp, .int ig, .int lf, .ref rd, .ref nw, .ref tr, .ref di, .int ac, .ref kp, .ref ik])), (nw, .inl (tc 0, 357, .inl row))]) hP hD hS hA rfl rfl (by decide) (by decide) (fc_runS (isC := []) (As := [.long p0.toInt64, .long 0, .long (((row (17 : Int32).toNatClampNeg) - 1) : Int32).toInt64]) (rest := []) hx hb hml hown hts hK hE hP hD hS hA rfl (by decide) (c_X8_in l D tc p0.toInt64 0 ((((row (17 : Int32).toNatClampNeg) - 1) : Int32).toInt64) _ ) (cwS 3 hts gX8_isWaiting_X8_in rfl rfl rfl hd_X8_in ⟨Nat.le_of_ble_eq_true rfl, Nat.le_of_ble_eq_true rfl⟩) rfl hl.1 rfl (Nat.le_of_ble_eq_true rfl) dX8_isWaiting_13 ⟨Nat.le_of_ble_eq_true rfl, Nat.le_of_ble_eq_true rfl⟩) (fun r_1 u_1 H locs hw_1 hP hD hS => ?_)
  try dsimp only at hw_1
  have hP : va_P D vwCl [(mo, .inr (8, [.int rf, .ref sc, .int ss, .int sp, .int ig, .int lf, .ref rd, .ref nw, .ref tr, .ref di, .int ac, .ref kp, .ref ik])), (nw, .inl (tc 0, 357, .inl row))] H := hP
  have hD : va_D A [(mo, .inr (8, [.int rf, .ref sc, .int ss, .int sp, .int ig, .int lf, .ref rd, .ref nw, .ref tr, .ref di, .int ac, .ref kp, .ref ik])), (nw, .inl (tc 0, 357, .inl row))] := hD
  have hi_1 := fx_in3 hw_1 (A := p0.toInt) (B := 0) (C := ((row (17 : Int32).toNatClampNeg) - 1).toInt) (Int32.toInt_toInt64 _) (by decide) (Int32.toInt_toInt64 _)
  exact hret _ _ (r_1) () _ _ (fx_in01 hw_1) (by rw [mX8_isWaiting]; (try dsimp only); rw [hw_1]; (try dsimp only); (first | done | rfl)) (hP.sub [0, 1] rfl) (hD.sub [0, 1] (by decide) rfl) hS dX8_isWaiting_16
theorem fx_isWaiting {rf ss sp ig lf ac : Int32} {row : Nat → Int32} {p r : Int32} (h : mX8_isWaiting rf ss sp ig lf ac row p = r) (hk : 0 ≤ (row (17 : Int32).toNatClampNeg).toInt ∧ (row (17 : Int32).toNatClampNeg).toInt ≤ 4) : r = 0 ∨ 0 ≤ p.toInt ∧ p.toInt ≤ (row (17 : Int32).toNatClampNeg).toInt - 1 := by
  refine fx_in3 (a := p.toInt64) (b := 0) (c := ((row (17 : Int32).toNatClampNeg) - 1).toInt64) h (Int32.toInt_toInt64 _) (by decide) ?_
  rw [Int32.toInt_toInt64]
  exact fc_subk (by decide) (by omega) (by omega)
--# X8_about
noncomputable def mX8_about (rf : Int32) (ss : Int32) (sp : Int32) (ig : Int32) (lf : Int32) (ac : Int32) (row : Nat → Int32) (p0 : Int32) : Int32 × Int32 :=
  let r_1 := mX8_in p0.toInt64 0 13
  if r_1 = 0 then
    (0, 1)
  else
    if p0 = 0 then
      ((row ((4 + p0) : Int32).toNatClampNeg), 0)
    else
      if p0 = 1 then
        ((row ((4 + p0) : Int32).toNatClampNeg), 0)
      else
        if p0 = 2 then
          ((row (16 : Int32).toNatClampNeg), 0)
        else
          if p0 = 3 then
            ((row (17 : Int32).toNatClampNeg), 0)
          else
            if p0 = 4 then
              ((row ((p0 + 2) : Int32).toNatClampNeg), 0)
            else
              if p0 = 5 then
                ((row ((p0 + 2) : Int32).toNatClampNeg), 0)
              else
                if p0 = 6 then
                  ((row ((p0 + 2) : Int32).toNatClampNeg), 0)
                else
                  if p0 = 7 then
                    let r_15 := mX8_count row (-1)
                    (r_15, 0)
                  else
                    if p0 = 8 then
                      let r_17 := mX8_count row (-2)
                      (r_17, 0)
                    else
                      if p0 = 9 then
                        ((row p0.toNatClampNeg), 0)
                      else
                        if p0 = 10 then
                          ((row p0.toNatClampNeg), 0)
                        else
                          if p0 = 11 then
                            ((row (3 : Int32).toNatClampNeg), 0)
                          else
                            if p0 = 12 then
                              ((row (11 : Int32).toNatClampNeg), 0)
                            else
                              if p0 = 13 then
                                ((row (12 : Int32).toNatClampNeg), 0)
                              else
                                ((row ((p0 + 2) : Int32).toNatClampNeg), 0)
set_option maxRecDepth 20000 in
theorem iX8_about_X8 : ∀ w ∈ wsX80, w ∈ wsX8_about := by decide +kernel
abbrev rmX8_about : Room := { frames := 1, cells := 0, slots := 0, locals := 25 }
set_option maxHeartbeats 4000000 in
set_option maxRecDepth 100000 in
theorem c_X8_about (l : Launch) (D : va_G) (tc : Nat → ClassId) (mo : Nat) (sc : Nat) (rd : Nat) (nw : Nat) (tr : Nat) (di : Nat) (kp : Nat) (ik : Nat) (rf : Int32) (ss : Int32) (sp : Int32) (ig : Int32) (lf : Int32) (ac : Int32) (row : Nat → Int32) (p0 : Int32) (sz : Nat) (hR : RXn 51 row) : Met l yX8_about wsX8_about rmX8_about (va_Pc [.ref mo, .int p0] (fcB D tc [(mo, .inr (8, [.int rf, .ref sc, .int ss, .int sp, .int ig, .int lf, .ref rd, .ref nw, .ref tr, .ref di, .int ac, .ref kp, .ref ik])), (nw, .inl (tc 0, 357, .inl row))] sz)) (va_Qi (fun (r : Int32) (u : Int32) => mX8_about rf ss sp ig lf ac row p0 = (r, u)) (fun u t => fcO D (va_A [(mo, .inr (8, [.int rf, .ref sc, .int ss, .int sp, .int ig, .int lf, .ref rd, .ref nw, .ref tr, .ref di, .int ac, .ref kp, .ref ik])), (nw, .inl (tc 0, 357, .inl row))] sz) ((fun (u : Int32) => [(mo, .inr (8, [.int u, .ref sc, .int ss, .int sp, .int ig, .int lf, .ref rd, .ref nw, .ref tr, .ref di, .int ac, .ref kp, .ref ik])), (nw, .inl (tc 0, 357, .inl row))]) u) t) (va_A [(mo, .inr (8, [.int rf, .ref sc, .int ss, .int sp, .int ig, .int lf, .ref rd, .ref nw, .ref tr, .ref di, .int ac, .ref kp, .ref ik])), (nw, .inl (tc 0, 357, .inl row))] sz)) 0 0 (va_A [(mo, .inr (8, [.int rf, .ref sc, .int ss, .int sp, .int ig, .int lf, .ref rd, .ref nw, .ref tr, .ref di, .int ac, .ref kp, .ref ik])), (nw, .inl (tc 0, 357, .inl row))] sz) := by
  refine fc_ofWi (own := RX8) (cc := cX8_about) (maxL := 2) (W1 := (fun (u : Int32) => [(mo, .inr (8, [.int u, .ref sc, .int ss, .int sp, .int ig, .int lf, .ref rd, .ref nw, .ref tr, .ref di, .int ac, .ref kp, .ref ik])), (nw, .inl (tc 0, 357, .inl row))])) rfl (by decide) rfl (Nat.le_of_ble_eq_true rfl) ?_
  intro p e s m args below meth c A Q hx hb hml hown hts hK hE hP hD hS hA hin hret ls hl
  have hl : lv_has ls 2 [(0, .ref mo), (1, .int p0)] := hl
  have k3 := (RX_K hR).1
  have k16 := (RX_K hR).2.1
  have k17 := (RX_K hR).2.2
  have k18 := RX_18 hR
  have b3 := fc_subk (x := row (3 : Int32).toNatClampNeg) (k := 1) (n := 1) (by decide) (by omega) (by omega)
  have b16 := fc_subk (x := row (16 : Int32).toNatClampNeg) (k := 1) (n := 1) (by decide) (by omega) (by omega)
  have b17 := fc_subk (x := row (17 : Int32).toNatClampNeg) (k := 1) (n := 1) (by decide) (by omega) (by omega)
  have b18 := fc_subk (x := row (18 : Int32).toNatClampNeg) (k := 1) (n := 1) (by decide) (by omega) (by omega)
  refine lv_aload_n hx hb dX8_about_0 rfl (lv_at hl 0 rfl) ?_
  refine lv_iload_n hx hb dX8_about_1 rfl (lv_at hl 1 rfl) ?_
  refine lv_i2l hx hb dX8_about_2 rfl ?_
  refine lv_lconst (v := 0) hx hb dX8_about_3 (by decide) ?_
  refine lv_ldc2 (v := 13) hx hb hown (hts (.constantLong RX8 151 13) (by decide +kernel)) dX8_about_4 ?_
  refine fc_goi (isC := []) (isR := [0, 1]) (wc := []) (wr := [(mo, .inr (8, [.int rf, .ref sc, .int ss, .int sp, .int ig, .int lf, .ref rd, .ref nw, .ref tr, .ref di, .int ac, .ref kp, .ref ik])), (nw, .inl (tc 0, 357, .inl row))]) hP hD hS hA rfl rfl (by decide) (by decide) (fc_runS (isC := []) (As := [.long p0.toInt64, .long 0, .long 13]) (rest := [.ref mo]) hx hb hml hown hts hK hE hP hD hS hA rfl (by decide) (c_X8_in l D tc p0.toInt64 0 13 _ ) (cwS 3 hts gX8_about_X8_in rfl rfl rfl hd_X8_in ⟨Nat.le_of_ble_eq_true rfl, Nat.le_of_ble_eq_true rfl⟩) rfl hl.1 rfl (Nat.le_of_ble_eq_true rfl) dX8_about_7 ⟨Nat.le_of_ble_eq_true rfl, Nat.le_of_ble_eq_true rfl⟩) (fun r_1 u_1 H locs hw_1 hP hD hS => ?_)
  try dsimp only at hw_1
  have hP : va_P D vwCl [(mo, .inr (8, [.int rf, .ref sc, .int ss, .int sp, .int ig, .int lf, .ref rd, .ref nw, .ref tr, .ref di, .int ac, .ref kp, .ref ik])), (nw, .inl (tc 0, 357, .inl row))] H := hP
  have hD : va_D A [(mo, .inr (8, [.int rf, .ref sc, .int ss, .int sp, .int ig, .int lf, .ref rd, .ref nw, .ref tr, .ref di, .int ac, .ref kp, .ref ik])), (nw, .inl (tc 0, 357, .inl row))] := hD
  have hi_1 := fx_in3 hw_1 (A := p0.toInt) (B := 0) (C := 13) (Int32.toInt_toInt64 _) (by decide) (by decide)
  refine lv_if_eq (tgt := 17) hx hb dX8_about_10 (by decide) (fun c_2 => ?_) (fun c_2 => ?_)
  · refine lv_iconst (v := 1) hx hb dX8_about_17 (by decide) ?_
    refine fc_goi (isC := [0]) (isR := [1]) (wc := [(mo, .inr (8, [.int rf, .ref sc, .int ss, .int sp, .int ig, .int lf, .ref rd, .ref nw, .ref tr, .ref di, .int ac, .ref kp, .ref ik]))]) (wr := [(nw, .inl (tc 0, 357, .inl row))]) hP hD hS hA rfl rfl (by decide) (by decide) (fc_runV (isC := [0]) (As := [.int 1]) (rest := []) hx hb hml hown hts hK hE hP hD hS hA rfl (by decide) (c_X8_refused l D tc mo sc rd nw tr di kp ik rf ss sp ig lf ac 1 _ ) (cwV 1 hts gX8_about_X8_refused rfl rfl rfl hd_X8_refused ⟨Nat.le_of_ble_eq_true rfl, Nat.le_of_ble_eq_true rfl⟩) (ci := 8) rfl rfl rfl rfl hl.1 rfl (Nat.le_of_ble_eq_true rfl) dX8_about_18 ⟨Nat.le_of_ble_eq_true rfl, Nat.le_of_ble_eq_true rfl⟩) (fun r_3 u_3 H locs hw_3 hP hD hS => ?_)
    obtain ⟨rf_3, rfl⟩ : ∃ z, z = u_3 := ⟨_, rfl⟩
    obtain ⟨z1_3, z2_3⟩ := fx_ref1 hw_3
    subst z1_3
    subst z2_3
    have hP : va_P D vwCl [(nw, .inl (tc 0, 357, .inl row)), (mo, .inr (8, [.int 1, .ref sc, .int ss, .int sp, .int ig, .int lf, .ref rd, .ref nw, .ref tr, .ref di, .int ac, .ref kp, .ref ik]))] H := hP
    have hD : va_D A [(nw, .inl (tc 0, 357, .inl row)), (mo, .inr (8, [.int 1, .ref sc, .int ss, .int sp, .int ig, .int lf, .ref rd, .ref nw, .ref tr, .ref di, .int ac, .ref kp, .ref ik]))] := hD
    refine lv_if_eq (tgt := 26) hx hb dX8_about_21 (by decide) (fun c_4 => ?_) (fun c_4 => ?_)
    · exact absurd c_4 (by decide)
    · refine lv_iconst (v := 0) hx hb dX8_about_24 (by decide) ?_
      exact hret _ _ (0) 1 _ _ (by rw [mX8_about]; (try dsimp only); rw [hw_1]; (try dsimp only); rw [if_pos c_2]; (first | done | rfl)) (hP.sub [1, 0] rfl) (hD.sub [1, 0] (by decide) rfl) hS dX8_about_25
  · have hj_1 := hi_1.resolve_left c_2
    refine lv_iconst (v := 0) hx hb dX8_about_13 (by decide) ?_
    refine lv_goto (tgt := 18) hx hb dX8_about_14 (by decide) ?_
    refine fc_goi (isC := [0]) (isR := [1]) (wc := [(mo, .inr (8, [.int rf, .ref sc, .int ss, .int sp, .int ig, .int lf, .ref rd, .ref nw, .ref tr, .ref di, .int ac, .ref kp, .ref ik]))]) (wr := [(nw, .inl (tc 0, 357, .inl row))]) hP hD hS hA rfl rfl (by decide) (by decide) (fc_runV (isC := [0]) (As := [.int 0]) (rest := []) hx hb hml hown hts hK hE hP hD hS hA rfl (by decide) (c_X8_refused l D tc mo sc rd nw tr di kp ik rf ss sp ig lf ac 0 _ ) (cwV 1 hts gX8_about_X8_refused rfl rfl rfl hd_X8_refused ⟨Nat.le_of_ble_eq_true rfl, Nat.le_of_ble_eq_true rfl⟩) (ci := 8) rfl rfl rfl rfl hl.1 rfl (Nat.le_of_ble_eq_true rfl) dX8_about_18 ⟨Nat.le_of_ble_eq_true rfl, Nat.le_of_ble_eq_true rfl⟩) (fun r_5 u_5 H locs hw_5 hP hD hS => ?_)
    obtain ⟨rf_5, rfl⟩ : ∃ z, z = u_5 := ⟨_, rfl⟩
    obtain ⟨z1_5, z2_5⟩ := fx_ref0 hw_5
    subst z1_5
    subst z2_5
    have hP : va_P D vwCl [(nw, .inl (tc 0, 357, .inl row)), (mo, .inr (8, [.int 0, .ref sc, .int ss, .int sp, .int ig, .int lf, .ref rd, .ref nw, .ref tr, .ref di, .int ac, .ref kp, .ref ik]))] H := hP
    have hD : va_D A [(nw, .inl (tc 0, 357, .inl row)), (mo, .inr (8, [.int 0, .ref sc, .int ss, .int sp, .int ig, .int lf, .ref rd, .ref nw, .ref tr, .ref di, .int ac, .ref kp, .ref ik]))] := hD
    refine lv_if_eq (tgt := 26) hx hb dX8_about_21 (by decide) (fun c_6 => ?_) (fun c_6 => ?_)
    · refine lv_iload_n hx hb dX8_about_26 rfl (lv_at hl 1 rfl) ?_
      by_cases c_7 : p0 = 0
      · refine lv_tableIn (tgt := 154) hx hb dX8_about_27 (by rw [c_7]; decide) (by rw [c_7]; decide) (by rw [c_7]; rfl) (by decide) ?_
        refine lv_aload_n hx hb dX8_about_154 rfl (lv_at hl 0 rfl) ?_
        refine va_get (D := D) (ci := 8) (v := .ref nw) (C := RX8) (T := TX8) (N := 13) hx hb hts iX8_about_X8 hown hK hP 1 rfl rfl 7 (by decide) (hts (.fieldLink RX8 16 "FrameCardModel" "now" "[I") (by decide +kernel)) (fun _ h9 => h9) rfl dX8_about_155 ?_
        refine lv_iconst (v := 4) hx hb dX8_about_158 (by decide) ?_
        refine lv_iload_n hx hb dX8_about_159 rfl (lv_at hl 1 rfl) ?_
        refine lv_iadd hx hb dX8_about_160 ?_
        refine va_iald (D := D) hx hb hK hP 0 0 rfl rfl (by have l_0 : (0 : Int32).toInt = 0 := (by decide); have l_1 : (1 : Int32).toInt = 1 := (by decide); have l_13 : (13 : Int32).toInt = 13 := (by decide); have l_2 : (2 : Int32).toInt = 2 := (by decide); have l_3 : (3 : Int32).toInt = 3 := (by decide); have l_4 : (4 : Int32).toInt = 4 := (by decide); have qc_2 := c_2; (try simp only [fc_le, fc_lt, fc_eq] at qc_2); have qc_7 := c_7; (try simp only [fc_le, fc_lt, fc_eq] at qc_7); have a_1 := fc_kadd (x := p0) (k := 4) (n := 4) (by decide) (by omega) (by omega); have qhj_1 := hj_1; (try simp only [fc_le, fc_lt, fc_eq] at qhj_1); rw [vp_in_iff]; omega) dX8_about_161 ?_
        exact hret _ _ (row ((4 + p0) : Int32).toNatClampNeg) 0 _ _ (by rw [mX8_about]; (try dsimp only); rw [hw_1]; (try dsimp only); rw [if_neg c_2]; rw [if_pos c_7]; (first | done | rfl)) (hP.sub [1, 0] rfl) (hD.sub [1, 0] (by decide) rfl) hS dX8_about_162
      by_cases c_8 : p0 = 1
      · refine lv_tableIn (tgt := 154) hx hb dX8_about_27 (by rw [c_8]; decide) (by rw [c_8]; decide) (by rw [c_8]; rfl) (by decide) ?_
        refine lv_aload_n hx hb dX8_about_154 rfl (lv_at hl 0 rfl) ?_
        refine va_get (D := D) (ci := 8) (v := .ref nw) (C := RX8) (T := TX8) (N := 13) hx hb hts iX8_about_X8 hown hK hP 1 rfl rfl 7 (by decide) (hts (.fieldLink RX8 16 "FrameCardModel" "now" "[I") (by decide +kernel)) (fun _ h9 => h9) rfl dX8_about_155 ?_
        refine lv_iconst (v := 4) hx hb dX8_about_158 (by decide) ?_
        refine lv_iload_n hx hb dX8_about_159 rfl (lv_at hl 1 rfl) ?_
        refine lv_iadd hx hb dX8_about_160 ?_
        refine va_iald (D := D) hx hb hK hP 0 0 rfl rfl (by have l_0 : (0 : Int32).toInt = 0 := (by decide); have l_1 : (1 : Int32).toInt = 1 := (by decide); have l_13 : (13 : Int32).toInt = 13 := (by decide); have l_2 : (2 : Int32).toInt = 2 := (by decide); have l_3 : (3 : Int32).toInt = 3 := (by decide); have l_4 : (4 : Int32).toInt = 4 := (by decide); have qc_2 := c_2; (try simp only [fc_le, fc_lt, fc_eq] at qc_2); have qc_7 := c_7; (try simp only [fc_le, fc_lt, fc_eq] at qc_7); have qc_8 := c_8; (try simp only [fc_le, fc_lt, fc_eq] at qc_8); have a_1 := fc_kadd (x := p0) (k := 4) (n := 4) (by decide) (by omega) (by omega); have qhj_1 := hj_1; (try simp only [fc_le, fc_lt, fc_eq] at qhj_1); rw [vp_in_iff]; omega) dX8_about_161 ?_
        exact hret _ _ (row ((4 + p0) : Int32).toNatClampNeg) 0 _ _ (by rw [mX8_about]; (try dsimp only); rw [hw_1]; (try dsimp only); rw [if_neg c_2]; rw [if_neg c_7]; rw [if_pos c_8]; (first | done | rfl)) (hP.sub [1, 0] rfl) (hD.sub [1, 0] (by decide) rfl) hS dX8_about_162
      by_cases c_9 : p0 = 2
      · refine lv_tableIn (tgt := 96) hx hb dX8_about_27 (by rw [c_9]; decide) (by rw [c_9]; decide) (by rw [c_9]; rfl) (by decide) ?_
        refine lv_aload_n hx hb dX8_about_96 rfl (lv_at hl 0 rfl) ?_
        refine va_get (D := D) (ci := 8) (v := .ref nw) (C := RX8) (T := TX8) (N := 13) hx hb hts iX8_about_X8 hown hK hP 1 rfl rfl 7 (by decide) (hts (.fieldLink RX8 16 "FrameCardModel" "now" "[I") (by decide +kernel)) (fun _ h9 => h9) rfl dX8_about_97 ?_
        refine lv_bipush (v := 16) hx hb dX8_about_100 (by decide) ?_
        refine va_iald (D := D) hx hb hK hP 0 0 rfl rfl (vp_in_iff.mpr (by decide)) dX8_about_102 ?_
        exact hret _ _ (row (16 : Int32).toNatClampNeg) 0 _ _ (by rw [mX8_about]; (try dsimp only); rw [hw_1]; (try dsimp only); rw [if_neg c_2]; rw [if_neg c_7]; rw [if_neg c_8]; rw [if_pos c_9]; (first | done | rfl)) (hP.sub [1, 0] rfl) (hD.sub [1, 0] (by decide) rfl) hS dX8_about_103
      by_cases c_10 : p0 = 3
      · refine lv_tableIn (tgt := 104) hx hb dX8_about_27 (by rw [c_10]; decide) (by rw [c_10]; decide) (by rw [c_10]; rfl) (by decide) ?_
        refine lv_aload_n hx hb dX8_about_104 rfl (lv_at hl 0 rfl) ?_
        refine va_get (D := D) (ci := 8) (v := .ref nw) (C := RX8) (T := TX8) (N := 13) hx hb hts iX8_about_X8 hown hK hP 1 rfl rfl 7 (by decide) (hts (.fieldLink RX8 16 "FrameCardModel" "now" "[I") (by decide +kernel)) (fun _ h9 => h9) rfl dX8_about_105 ?_
        refine lv_bipush (v := 17) hx hb dX8_about_108 (by decide) ?_
        refine va_iald (D := D) hx hb hK hP 0 0 rfl rfl (vp_in_iff.mpr (by decide)) dX8_about_110 ?_
        exact hret _ _ (row (17 : Int32).toNatClampNeg) 0 _ _ (by rw [mX8_about]; (try dsimp only); rw [hw_1]; (try dsimp only); rw [if_neg c_2]; rw [if_neg c_7]; rw [if_neg c_8]; rw [if_neg c_9]; rw [if_pos c_10]; (first | done | rfl)) (hP.sub [1, 0] rfl) (hD.sub [1, 0] (by decide) rfl) hS dX8_about_111
      by_cases c_11 : p0 = 4
      · refine lv_tableIn (tgt := 170) hx hb dX8_about_27 (by rw [c_11]; decide) (by rw [c_11]; decide) (by rw [c_11]; rfl) (by decide) ?_
        refine lv_aload_n hx hb dX8_about_170 rfl (lv_at hl 0 rfl) ?_
        refine va_get (D := D) (ci := 8) (v := .ref nw) (C := RX8) (T := TX8) (N := 13) hx hb hts iX8_about_X8 hown hK hP 1 rfl rfl 7 (by decide) (hts (.fieldLink RX8 16 "FrameCardModel" "now" "[I") (by decide +kernel)) (fun _ h9 => h9) rfl dX8_about_171 ?_
        refine lv_iload_n hx hb dX8_about_174 rfl (lv_at hl 1 rfl) ?_
        refine lv_iconst (v := 2) hx hb dX8_about_175 (by decide) ?_
        refine lv_iadd hx hb dX8_about_176 ?_
        refine va_iald (D := D) hx hb hK hP 0 0 rfl rfl (by have l_0 : (0 : Int32).toInt = 0 := (by decide); have l_1 : (1 : Int32).toInt = 1 := (by decide); have l_13 : (13 : Int32).toInt = 13 := (by decide); have l_2 : (2 : Int32).toInt = 2 := (by decide); have l_3 : (3 : Int32).toInt = 3 := (by decide); have l_4 : (4 : Int32).toInt = 4 := (by decide); have qc_2 := c_2; (try simp only [fc_le, fc_lt, fc_eq] at qc_2); have qc_7 := c_7; (try simp only [fc_le, fc_lt, fc_eq] at qc_7); have qc_8 := c_8; (try simp only [fc_le, fc_lt, fc_eq] at qc_8); have qc_9 := c_9; (try simp only [fc_le, fc_lt, fc_eq] at qc_9); have qc_10 := c_10; (try simp only [fc_le, fc_lt, fc_eq] at qc_10); have qc_11 := c_11; (try simp only [fc_le, fc_lt, fc_eq] at qc_11); have a_1 := fc_addk (x := p0) (k := 2) (n := 2) (by decide) (by omega) (by omega); have qhj_1 := hj_1; (try simp only [fc_le, fc_lt, fc_eq] at qhj_1); rw [vp_in_iff]; omega) dX8_about_177 ?_
        exact hret _ _ (row ((p0 + 2) : Int32).toNatClampNeg) 0 _ _ (by rw [mX8_about]; (try dsimp only); rw [hw_1]; (try dsimp only); rw [if_neg c_2]; rw [if_neg c_7]; rw [if_neg c_8]; rw [if_neg c_9]; rw [if_neg c_10]; rw [if_pos c_11]; (first | done | rfl)) (hP.sub [1, 0] rfl) (hD.sub [1, 0] (by decide) rfl) hS dX8_about_178
      by_cases c_12 : p0 = 5
      · refine lv_tableIn (tgt := 170) hx hb dX8_about_27 (by rw [c_12]; decide) (by rw [c_12]; decide) (by rw [c_12]; rfl) (by decide) ?_
        refine lv_aload_n hx hb dX8_about_170 rfl (lv_at hl 0 rfl) ?_
        refine va_get (D := D) (ci := 8) (v := .ref nw) (C := RX8) (T := TX8) (N := 13) hx hb hts iX8_about_X8 hown hK hP 1 rfl rfl 7 (by decide) (hts (.fieldLink RX8 16 "FrameCardModel" "now" "[I") (by decide +kernel)) (fun _ h9 => h9) rfl dX8_about_171 ?_
        refine lv_iload_n hx hb dX8_about_174 rfl (lv_at hl 1 rfl) ?_
        refine lv_iconst (v := 2) hx hb dX8_about_175 (by decide) ?_
        refine lv_iadd hx hb dX8_about_176 ?_
        refine va_iald (D := D) hx hb hK hP 0 0 rfl rfl (by have l_0 : (0 : Int32).toInt = 0 := (by decide); have l_1 : (1 : Int32).toInt = 1 := (by decide); have l_13 : (13 : Int32).toInt = 13 := (by decide); have l_2 : (2 : Int32).toInt = 2 := (by decide); have l_3 : (3 : Int32).toInt = 3 := (by decide); have l_4 : (4 : Int32).toInt = 4 := (by decide); have l_5 : (5 : Int32).toInt = 5 := (by decide); have qc_2 := c_2; (try simp only [fc_le, fc_lt, fc_eq] at qc_2); have qc_7 := c_7; (try simp only [fc_le, fc_lt, fc_eq] at qc_7); have qc_8 := c_8; (try simp only [fc_le, fc_lt, fc_eq] at qc_8); have qc_9 := c_9; (try simp only [fc_le, fc_lt, fc_eq] at qc_9); have qc_10 := c_10; (try simp only [fc_le, fc_lt, fc_eq] at qc_10); have qc_11 := c_11; (try simp only [fc_le, fc_lt, fc_eq] at qc_11); have qc_12 := c_12; (try simp only [fc_le, fc_lt, fc_eq] at qc_12); have a_1 := fc_addk (x := p0) (k := 2) (n := 2) (by decide) (by omega) (by omega); have qhj_1 := hj_1; (try simp only [fc_le, fc_lt, fc_eq] at qhj_1); rw [vp_in_iff]; omega) dX8_about_177 ?_
        exact hret _ _ (row ((p0 + 2) : Int32).toNatClampNeg) 0 _ _ (by rw [mX8_about]; (try dsimp only); rw [hw_1]; (try dsimp only); rw [if_neg c_2]; rw [if_neg c_7]; rw [if_neg c_8]; rw [if_neg c_9]; rw [if_neg c_10]; rw [if_neg c_11]; rw [if_pos c_12]; (first | done | rfl)) (hP.sub [1, 0] rfl) (hD.sub [1, 0] (by decide) rfl) hS dX8_about_178
      by_cases c_13 : p0 = 6
      · refine lv_tableIn (tgt := 170) hx hb dX8_about_27 (by rw [c_13]; decide) (by rw [c_13]; decide) (by rw [c_13]; rfl) (by decide) ?_
        refine lv_aload_n hx hb dX8_about_170 rfl (lv_at hl 0 rfl) ?_
        refine va_get (D := D) (ci := 8) (v := .ref nw) (C := RX8) (T := TX8) (N := 13) hx hb hts iX8_about_X8 hown hK hP 1 rfl rfl 7 (by decide) (hts (.fieldLink RX8 16 "FrameCardModel" "now" "[I") (by decide +kernel)) (fun _ h9 => h9) rfl dX8_about_171 ?_
        refine lv_iload_n hx hb dX8_about_174 rfl (lv_at hl 1 rfl) ?_
        refine lv_iconst (v := 2) hx hb dX8_about_175 (by decide) ?_
        refine lv_iadd hx hb dX8_about_176 ?_
        refine va_iald (D := D) hx hb hK hP 0 0 rfl rfl (by have l_0 : (0 : Int32).toInt = 0 := (by decide); have l_1 : (1 : Int32).toInt = 1 := (by decide); have l_13 : (13 : Int32).toInt = 13 := (by decide); have l_2 : (2 : Int32).toInt = 2 := (by decide); have l_3 : (3 : Int32).toInt = 3 := (by decide); have l_4 : (4 : Int32).toInt = 4 := (by decide); have l_5 : (5 : Int32).toInt = 5 := (by decide); have l_6 : (6 : Int32).toInt = 6 := (by decide); have qc_2 := c_2; (try simp only [fc_le, fc_lt, fc_eq] at qc_2); have qc_7 := c_7; (try simp only [fc_le, fc_lt, fc_eq] at qc_7); have qc_8 := c_8; (try simp only [fc_le, fc_lt, fc_eq] at qc_8); have qc_9 := c_9; (try simp only [fc_le, fc_lt, fc_eq] at qc_9); have qc_10 := c_10; (try simp only [fc_le, fc_lt, fc_eq] at qc_10); have qc_11 := c_11; (try simp only [fc_le, fc_lt, fc_eq] at qc_11); have qc_12 := c_12; (try simp only [fc_le, fc_lt, fc_eq] at qc_12); have qc_13 := c_13; (try simp only [fc_le, fc_lt, fc_eq] at qc_13); have a_1 := fc_addk (x := p0) (k := 2) (n := 2) (by decide) (by omega) (by omega); have qhj_1 := hj_1; (try simp only [fc_le, fc_lt, fc_eq] at qhj_1); rw [vp_in_iff]; omega) dX8_about_177 ?_
        exact hret _ _ (row ((p0 + 2) : Int32).toNatClampNeg) 0 _ _ (by rw [mX8_about]; (try dsimp only); rw [hw_1]; (try dsimp only); rw [if_neg c_2]; rw [if_neg c_7]; rw [if_neg c_8]; rw [if_neg c_9]; rw [if_neg c_10]; rw [if_neg c_11]; rw [if_neg c_12]; rw [if_pos c_13]; (first | done | rfl)) (hP.sub [1, 0] rfl) (hD.sub [1, 0] (by decide) rfl) hS dX8_about_178
      by_cases c_14 : p0 = 7
      · refine lv_tableIn (tgt := 112) hx hb dX8_about_27 (by rw [c_14]; decide) (by rw [c_14]; decide) (by rw [c_14]; rfl) (by decide) ?_
        refine lv_aload_n hx hb dX8_about_112 rfl (lv_at hl 0 rfl) ?_
        refine va_get (D := D) (ci := 8) (v := .ref nw) (C := RX8) (T := TX8) (N := 13) hx hb hts iX8_about_X8 hown hK hP 1 rfl rfl 7 (by decide) (hts (.fieldLink RX8 16 "FrameCardModel" "now" "[I") (by decide +kernel)) (fun _ h9 => h9) rfl dX8_about_113 ?_
        refine lv_iconst (v := (-1)) hx hb dX8_about_116 (by decide) ?_
        refine fc_goi (isC := [0]) (isR := [1]) (wc := [(nw, .inl (tc 0, 357, .inl row))]) (wr := [(mo, .inr (8, [.int 0, .ref sc, .int ss, .int sp, .int ig, .int lf, .ref rd, .ref nw, .ref tr, .ref di, .int ac, .ref kp, .ref ik]))]) hP hD hS hA rfl rfl (by decide) (by decide) (fc_runS (isC := [0]) (As := [.ref nw, .int (-1)]) (rest := []) hx hb hml hown hts hK hE hP hD hS hA rfl (by decide) (c_X8_count l D tc nw row (-1) _ k3) (cwS 2 hts gX8_about_X8_count rfl rfl rfl hd_X8_count ⟨Nat.le_of_ble_eq_true rfl, Nat.le_of_ble_eq_true rfl⟩) rfl hl.1 rfl (Nat.le_of_ble_eq_true rfl) dX8_about_117 ⟨Nat.le_of_ble_eq_true rfl, Nat.le_of_ble_eq_true rfl⟩) (fun r_15 u_15 H locs hw_15 hP hD hS => ?_)
        try dsimp only at hw_15
        have hP : va_P D vwCl [(mo, .inr (8, [.int 0, .ref sc, .int ss, .int sp, .int ig, .int lf, .ref rd, .ref nw, .ref tr, .ref di, .int ac, .ref kp, .ref ik])), (nw, .inl (tc 0, 357, .inl row))] H := hP
        have hD : va_D A [(mo, .inr (8, [.int 0, .ref sc, .int ss, .int sp, .int ig, .int lf, .ref rd, .ref nw, .ref tr, .ref di, .int ac, .ref kp, .ref ik])), (nw, .inl (tc 0, 357, .inl row))] := hD
        exact hret _ _ (r_15) 0 _ _ (by rw [mX8_about]; (try dsimp only); rw [hw_1]; (try dsimp only); rw [if_neg c_2]; rw [if_neg c_7]; rw [if_neg c_8]; rw [if_neg c_9]; rw [if_neg c_10]; rw [if_neg c_11]; rw [if_neg c_12]; rw [if_neg c_13]; rw [if_pos c_14]; rw [hw_15]; (try dsimp only); (first | done | rfl)) (hP.sub [0, 1] rfl) (hD.sub [0, 1] (by decide) rfl) hS dX8_about_120
      by_cases c_16 : p0 = 8
      · refine lv_tableIn (tgt := 121) hx hb dX8_about_27 (by rw [c_16]; decide) (by rw [c_16]; decide) (by rw [c_16]; rfl) (by decide) ?_
        refine lv_aload_n hx hb dX8_about_121 rfl (lv_at hl 0 rfl) ?_
        refine va_get (D := D) (ci := 8) (v := .ref nw) (C := RX8) (T := TX8) (N := 13) hx hb hts iX8_about_X8 hown hK hP 1 rfl rfl 7 (by decide) (hts (.fieldLink RX8 16 "FrameCardModel" "now" "[I") (by decide +kernel)) (fun _ h9 => h9) rfl dX8_about_122 ?_
        refine lv_bipush (v := (-2)) hx hb dX8_about_125 (by decide) ?_
        refine fc_goi (isC := [0]) (isR := [1]) (wc := [(nw, .inl (tc 0, 357, .inl row))]) (wr := [(mo, .inr (8, [.int 0, .ref sc, .int ss, .int sp, .int ig, .int lf, .ref rd, .ref nw, .ref tr, .ref di, .int ac, .ref kp, .ref ik]))]) hP hD hS hA rfl rfl (by decide) (by decide) (fc_runS (isC := [0]) (As := [.ref nw, .int (-2)]) (rest := []) hx hb hml hown hts hK hE hP hD hS hA rfl (by decide) (c_X8_count l D tc nw row (-2) _ k3) (cwS 2 hts gX8_about_X8_count rfl rfl rfl hd_X8_count ⟨Nat.le_of_ble_eq_true rfl, Nat.le_of_ble_eq_true rfl⟩) rfl hl.1 rfl (Nat.le_of_ble_eq_true rfl) dX8_about_127 ⟨Nat.le_of_ble_eq_true rfl, Nat.le_of_ble_eq_true rfl⟩) (fun r_17 u_17 H locs hw_17 hP hD hS => ?_)
        try dsimp only at hw_17
        have hP : va_P D vwCl [(mo, .inr (8, [.int 0, .ref sc, .int ss, .int sp, .int ig, .int lf, .ref rd, .ref nw, .ref tr, .ref di, .int ac, .ref kp, .ref ik])), (nw, .inl (tc 0, 357, .inl row))] H := hP
        have hD : va_D A [(mo, .inr (8, [.int 0, .ref sc, .int ss, .int sp, .int ig, .int lf, .ref rd, .ref nw, .ref tr, .ref di, .int ac, .ref kp, .ref ik])), (nw, .inl (tc 0, 357, .inl row))] := hD
        exact hret _ _ (r_17) 0 _ _ (by rw [mX8_about]; (try dsimp only); rw [hw_1]; (try dsimp only); rw [if_neg c_2]; rw [if_neg c_7]; rw [if_neg c_8]; rw [if_neg c_9]; rw [if_neg c_10]; rw [if_neg c_11]; rw [if_neg c_12]; rw [if_neg c_13]; rw [if_neg c_14]; rw [if_pos c_16]; rw [hw_17]; (try dsimp only); (first | done | rfl)) (hP.sub [0, 1] rfl) (hD.sub [0, 1] (by decide) rfl) hS dX8_about_130
      by_cases c_18 : p0 = 9
      · refine lv_tableIn (tgt := 163) hx hb dX8_about_27 (by rw [c_18]; decide) (by rw [c_18]; decide) (by rw [c_18]; rfl) (by decide) ?_
        refine lv_aload_n hx hb dX8_about_163 rfl (lv_at hl 0 rfl) ?_
        refine va_get (D := D) (ci := 8) (v := .ref nw) (C := RX8) (T := TX8) (N := 13) hx hb hts iX8_about_X8 hown hK hP 1 rfl rfl 7 (by decide) (hts (.fieldLink RX8 16 "FrameCardModel" "now" "[I") (by decide +kernel)) (fun _ h9 => h9) rfl dX8_about_164 ?_
        refine lv_iload_n hx hb dX8_about_167 rfl (lv_at hl 1 rfl) ?_
        refine va_iald (D := D) hx hb hK hP 0 0 rfl rfl (by have l_0 : (0 : Int32).toInt = 0 := (by decide); have l_1 : (1 : Int32).toInt = 1 := (by decide); have l_13 : (13 : Int32).toInt = 13 := (by decide); have l_2 : (2 : Int32).toInt = 2 := (by decide); have l_3 : (3 : Int32).toInt = 3 := (by decide); have l_4 : (4 : Int32).toInt = 4 := (by decide); have l_5 : (5 : Int32).toInt = 5 := (by decide); have l_6 : (6 : Int32).toInt = 6 := (by decide); have l_7 : (7 : Int32).toInt = 7 := (by decide); have l_8 : (8 : Int32).toInt = 8 := (by decide); have l_9 : (9 : Int32).toInt = 9 := (by decide); have qc_2 := c_2; (try simp only [fc_le, fc_lt, fc_eq] at qc_2); have qc_7 := c_7; (try simp only [fc_le, fc_lt, fc_eq] at qc_7); have qc_8 := c_8; (try simp only [fc_le, fc_lt, fc_eq] at qc_8); have qc_9 := c_9; (try simp only [fc_le, fc_lt, fc_eq] at qc_9); have qc_10 := c_10; (try simp only [fc_le, fc_lt, fc_eq] at qc_10); have qc_11 := c_11; (try simp only [fc_le, fc_lt, fc_eq] at qc_11); have qc_12 := c_12; (try simp only [fc_le, fc_lt, fc_eq] at qc_12); have qc_13 := c_13; (try simp only [fc_le, fc_lt, fc_eq] at qc_13); have qc_14 := c_14; (try simp only [fc_le, fc_lt, fc_eq] at qc_14); have qc_16 := c_16; (try simp only [fc_le, fc_lt, fc_eq] at qc_16); have qc_18 := c_18; (try simp only [fc_le, fc_lt, fc_eq] at qc_18); have qhj_1 := hj_1; (try simp only [fc_le, fc_lt, fc_eq] at qhj_1); rw [vp_in_iff]; omega) dX8_about_168 ?_
        exact hret _ _ (row p0.toNatClampNeg) 0 _ _ (by rw [mX8_about]; (try dsimp only); rw [hw_1]; (try dsimp only); rw [if_neg c_2]; rw [if_neg c_7]; rw [if_neg c_8]; rw [if_neg c_9]; rw [if_neg c_10]; rw [if_neg c_11]; rw [if_neg c_12]; rw [if_neg c_13]; rw [if_neg c_14]; rw [if_neg c_16]; rw [if_pos c_18]; (first | done | rfl)) (hP.sub [1, 0] rfl) (hD.sub [1, 0] (by decide) rfl) hS dX8_about_169
      by_cases c_19 : p0 = 10
      · refine lv_tableIn (tgt := 163) hx hb dX8_about_27 (by rw [c_19]; decide) (by rw [c_19]; decide) (by rw [c_19]; rfl) (by decide) ?_
        refine lv_aload_n hx hb dX8_about_163 rfl (lv_at hl 0 rfl) ?_
        refine va_get (D := D) (ci := 8) (v := .ref nw) (C := RX8) (T := TX8) (N := 13) hx hb hts iX8_about_X8 hown hK hP 1 rfl rfl 7 (by decide) (hts (.fieldLink RX8 16 "FrameCardModel" "now" "[I") (by decide +kernel)) (fun _ h9 => h9) rfl dX8_about_164 ?_
        refine lv_iload_n hx hb dX8_about_167 rfl (lv_at hl 1 rfl) ?_
        refine va_iald (D := D) hx hb hK hP 0 0 rfl rfl (by have l_0 : (0 : Int32).toInt = 0 := (by decide); have l_1 : (1 : Int32).toInt = 1 := (by decide); have l_10 : (10 : Int32).toInt = 10 := (by decide); have l_13 : (13 : Int32).toInt = 13 := (by decide); have l_2 : (2 : Int32).toInt = 2 := (by decide); have l_3 : (3 : Int32).toInt = 3 := (by decide); have l_4 : (4 : Int32).toInt = 4 := (by decide); have l_5 : (5 : Int32).toInt = 5 := (by decide); have l_6 : (6 : Int32).toInt = 6 := (by decide); have l_7 : (7 : Int32).toInt = 7 := (by decide); have l_8 : (8 : Int32).toInt = 8 := (by decide); have l_9 : (9 : Int32).toInt = 9 := (by decide); have qc_2 := c_2; (try simp only [fc_le, fc_lt, fc_eq] at qc_2); have qc_7 := c_7; (try simp only [fc_le, fc_lt, fc_eq] at qc_7); have qc_8 := c_8; (try simp only [fc_le, fc_lt, fc_eq] at qc_8); have qc_9 := c_9; (try simp only [fc_le, fc_lt, fc_eq] at qc_9); have qc_10 := c_10; (try simp only [fc_le, fc_lt, fc_eq] at qc_10); have qc_11 := c_11; (try simp only [fc_le, fc_lt, fc_eq] at qc_11); have qc_12 := c_12; (try simp only [fc_le, fc_lt, fc_eq] at qc_12); have qc_13 := c_13; (try simp only [fc_le, fc_lt, fc_eq] at qc_13); have qc_14 := c_14; (try simp only [fc_le, fc_lt, fc_eq] at qc_14); have qc_16 := c_16; (try simp only [fc_le, fc_lt, fc_eq] at qc_16); have qc_18 := c_18; (try simp only [fc_le, fc_lt, fc_eq] at qc_18); have qc_19 := c_19; (try simp only [fc_le, fc_lt, fc_eq] at qc_19); have qhj_1 := hj_1; (try simp only [fc_le, fc_lt, fc_eq] at qhj_1); rw [vp_in_iff]; omega) dX8_about_168 ?_
        exact hret _ _ (row p0.toNatClampNeg) 0 _ _ (by rw [mX8_about]; (try dsimp only); rw [hw_1]; (try dsimp only); rw [if_neg c_2]; rw [if_neg c_7]; rw [if_neg c_8]; rw [if_neg c_9]; rw [if_neg c_10]; rw [if_neg c_11]; rw [if_neg c_12]; rw [if_neg c_13]; rw [if_neg c_14]; rw [if_neg c_16]; rw [if_neg c_18]; rw [if_pos c_19]; (first | done | rfl)) (hP.sub [1, 0] rfl) (hD.sub [1, 0] (by decide) rfl) hS dX8_about_169
      by_cases c_20 : p0 = 11
      · refine lv_tableIn (tgt := 131) hx hb dX8_about_27 (by rw [c_20]; decide) (by rw [c_20]; decide) (by rw [c_20]; rfl) (by decide) ?_
        refine lv_aload_n hx hb dX8_about_131 rfl (lv_at hl 0 rfl) ?_
        refine va_get (D := D) (ci := 8) (v := .ref nw) (C := RX8) (T := TX8) (N := 13) hx hb hts iX8_about_X8 hown hK hP 1 rfl rfl 7 (by decide) (hts (.fieldLink RX8 16 "FrameCardModel" "now" "[I") (by decide +kernel)) (fun _ h9 => h9) rfl dX8_about_132 ?_
        refine lv_iconst (v := 3) hx hb dX8_about_135 (by decide) ?_
        refine va_iald (D := D) hx hb hK hP 0 0 rfl rfl (vp_in_iff.mpr (by decide)) dX8_about_136 ?_
        exact hret _ _ (row (3 : Int32).toNatClampNeg) 0 _ _ (by rw [mX8_about]; (try dsimp only); rw [hw_1]; (try dsimp only); rw [if_neg c_2]; rw [if_neg c_7]; rw [if_neg c_8]; rw [if_neg c_9]; rw [if_neg c_10]; rw [if_neg c_11]; rw [if_neg c_12]; rw [if_neg c_13]; rw [if_neg c_14]; rw [if_neg c_16]; rw [if_neg c_18]; rw [if_neg c_19]; rw [if_pos c_20]; (first | done | rfl)) (hP.sub [1, 0] rfl) (hD.sub [1, 0] (by decide) rfl) hS dX8_about_137
      by_cases c_21 : p0 = 12
      · refine lv_tableIn (tgt := 138) hx hb dX8_about_27 (by rw [c_21]; decide) (by rw [c_21]; decide) (by rw [c_21]; rfl) (by decide) ?_
        refine lv_aload_n hx hb dX8_about_138 rfl (lv_at hl 0 rfl) ?_
        refine va_get (D := D) (ci := 8) (v := .ref nw) (C := RX8) (T := TX8) (N := 13) hx hb hts iX8_about_X8 hown hK hP 1 rfl rfl 7 (by decide) (hts (.fieldLink RX8 16 "FrameCardModel" "now" "[I") (by decide +kernel)) (fun _ h9 => h9) rfl dX8_about_139 ?_
        refine lv_bipush (v := 11) hx hb dX8_about_142 (by decide) ?_
        refine va_iald (D := D) hx hb hK hP 0 0 rfl rfl (vp_in_iff.mpr (by decide)) dX8_about_144 ?_
        exact hret _ _ (row (11 : Int32).toNatClampNeg) 0 _ _ (by rw [mX8_about]; (try dsimp only); rw [hw_1]; (try dsimp only); rw [if_neg c_2]; rw [if_neg c_7]; rw [if_neg c_8]; rw [if_neg c_9]; rw [if_neg c_10]; rw [if_neg c_11]; rw [if_neg c_12]; rw [if_neg c_13]; rw [if_neg c_14]; rw [if_neg c_16]; rw [if_neg c_18]; rw [if_neg c_19]; rw [if_neg c_20]; rw [if_pos c_21]; (first | done | rfl)) (hP.sub [1, 0] rfl) (hD.sub [1, 0] (by decide) rfl) hS dX8_about_145
      by_cases c_22 : p0 = 13
      · refine lv_tableIn (tgt := 146) hx hb dX8_about_27 (by rw [c_22]; decide) (by rw [c_22]; decide) (by rw [c_22]; rfl) (by decide) ?_
        refine lv_aload_n hx hb dX8_about_146 rfl (lv_at hl 0 rfl) ?_
        refine va_get (D := D) (ci := 8) (v := .ref nw) (C := RX8) (T := TX8) (N := 13) hx hb hts iX8_about_X8 hown hK hP 1 rfl rfl 7 (by decide) (hts (.fieldLink RX8 16 "FrameCardModel" "now" "[I") (by decide +kernel)) (fun _ h9 => h9) rfl dX8_about_147 ?_
        refine lv_bipush (v := 12) hx hb dX8_about_150 (by decide) ?_
        refine va_iald (D := D) hx hb hK hP 0 0 rfl rfl (vp_in_iff.mpr (by decide)) dX8_about_152 ?_
        exact hret _ _ (row (12 : Int32).toNatClampNeg) 0 _ _ (by rw [mX8_about]; (try dsimp only); rw [hw_1]; (try dsimp only); rw [if_neg c_2]; rw [if_neg c_7]; rw [if_neg c_8]; rw [if_neg c_9]; rw [if_neg c_10]; rw [if_neg c_11]; rw [if_neg c_12]; rw [if_neg c_13]; rw [if_neg c_14]; rw [if_neg c_16]; rw [if_neg c_18]; rw [if_neg c_19]; rw [if_neg c_20]; rw [if_neg c_21]; rw [if_pos c_22]; (first | done | rfl)) (hP.sub [1, 0] rfl) (hD.sub [1, 0] (by decide) rfl) hS dX8_about_153
      refine lv_tableOut (tgt := 170) hx hb dX8_about_27 (by have qc_7 := c_7; simp only [fc_eq] at qc_7; have lc_7 : (0 : Int32).toInt = 0 := (by decide); have qc_8 := c_8; simp only [fc_eq] at qc_8; have lc_8 : (1 : Int32).toInt = 1 := (by decide); have qc_9 := c_9; simp only [fc_eq] at qc_9; have lc_9 : (2 : Int32).toInt = 2 := (by decide); have qc_10 := c_10; simp only [fc_eq] at qc_10; have lc_10 : (3 : Int32).toInt = 3 := (by decide); have qc_11 := c_11; simp only [fc_eq] at qc_11; have lc_11 : (4 : Int32).toInt = 4 := (by decide); have qc_12 := c_12; simp only [fc_eq] at qc_12; have lc_12 : (5 : Int32).toInt = 5 := (by decide); have qc_13 := c_13; simp only [fc_eq] at qc_13; have lc_13 : (6 : Int32).toInt = 6 := (by decide); have qc_14 := c_14; simp only [fc_eq] at qc_14; have lc_14 : (7 : Int32).toInt = 7 := (by decide); have qc_16 := c_16; simp only [fc_eq] at qc_16; have lc_16 : (8 : Int32).toInt = 8 := (by decide); have qc_18 := c_18; simp only [fc_eq] at qc_18; have lc_18 : (9 : Int32).toInt = 9 := (by decide); have qc_19 := c_19; simp only [fc_eq] at qc_19; have lc_19 : (10 : Int32).toInt = 10 := (by decide); have qc_20 := c_20; simp only [fc_eq] at qc_20; have lc_20 : (11 : Int32).toInt = 11 := (by decide); have qc_21 := c_21; simp only [fc_eq] at qc_21; have lc_21 : (12 : Int32).toInt = 12 := (by decide); have qc_22 := c_22; simp only [fc_eq] at qc_22; have lc_22 : (13 : Int32).toInt = 13 := (by decide); omega) (by decide) ?_
      refine lv_aload_n hx hb dX8_about_170 rfl (lv_at hl 0 rfl) ?_
      refine va_get (D := D) (ci := 8) (v := .ref nw) (C := RX8) (T := TX8) (N := 13) hx hb hts iX8_about_X8 hown hK hP 1 rfl rfl 7 (by decide) (hts (.fieldLink RX8 16 "FrameCardModel" "now" "[I") (by decide +kernel)) (fun _ h9 => h9) rfl dX8_about_171 ?_
      refine lv_iload_n hx hb dX8_about_174 rfl (lv_at hl 1 rfl) ?_
      refine lv_iconst (v := 2) hx hb dX8_about_175 (by decide) ?_
      refine lv_iadd hx hb dX8_about_176 ?_
      refine va_iald (D := D) hx hb hK hP 0 0 rfl rfl (by have l_0 : (0 : Int32).toInt = 0 := (by decide); have l_1 : (1 : Int32).toInt = 1 := (by decide); have l_10 : (10 : Int32).toInt = 10 := (by decide); have l_11 : (11 : Int32).toInt = 11 := (by decide); have l_12 : (12 : Int32).toInt = 12 := (by decide); have l_13 : (13 : Int32).toInt = 13 := (by decide); have l_2 : (2 : Int32).toInt = 2 := (by decide); have l_3 : (3 : Int32).toInt = 3 := (by decide); have l_4 : (4 : Int32).toInt = 4 := (by decide); have l_5 : (5 : Int32).toInt = 5 := (by decide); have l_6 : (6 : Int32).toInt = 6 := (by decide); have l_7 : (7 : Int32).toInt = 7 := (by decide); have l_8 : (8 : Int32).toInt = 8 := (by decide); have l_9 : (9 : Int32).toInt = 9 := (by decide); have qc_2 := c_2; (try simp only [fc_le, fc_lt, fc_eq] at qc_2); have qc_7 := c_7; (try simp only [fc_le, fc_lt, fc_eq] at qc_7); have qc_8 := c_8; (try simp only [fc_le, fc_lt, fc_eq] at qc_8); have qc_9 := c_9; (try simp only [fc_le, fc_lt, fc_eq] at qc_9); have qc_10 := c_10; (try simp only [fc_le, fc_lt, fc_eq] at qc_10); have qc_11 := c_11; (try simp only [fc_le, fc_lt, fc_eq] at qc_11); have qc_12 := c_12; (try simp only [fc_le, fc_lt, fc_eq] at qc_12); have qc_13 := c_13; (try simp only [fc_le, fc_lt, fc_eq] at qc_13); have qc_14 := c_14; (try simp only [fc_le, fc_lt, fc_eq] at qc_14); have qc_16 := c_16; (try simp only [fc_le, fc_lt, fc_eq] at qc_16); have qc_18 := c_18; (try simp only [fc_le, fc_lt, fc_eq] at qc_18); have qc_19 := c_19; (try simp only [fc_le, fc_lt, fc_eq] at qc_19); have qc_20 := c_20; (try simp only [fc_le, fc_lt, fc_eq] at qc_20); have qc_21 := c_21; (try simp only [fc_le, fc_lt, fc_eq] at qc_21); have qc_22 := c_22; (try simp only [fc_le, fc_lt, fc_eq] at qc_22); have a_1 := fc_addk (x := p0) (k := 2) (n := 2) (by decide) (by omega) (by omega); have qhj_1 := hj_1; (try simp only [fc_le, fc_lt, fc_eq] at qhj_1); rw [vp_in_iff]; omega) dX8_about_177 ?_
      exact hret _ _ (row ((p0 + 2) : Int32).toNatClampNeg) 0 _ _ (by rw [mX8_about]; (try dsimp only); rw [hw_1]; (try dsimp only); rw [if_neg c_2]; rw [if_neg c_7]; rw [if_neg c_8]; rw [if_neg c_9]; rw [if_neg c_10]; rw [if_neg c_11]; rw [if_neg c_12]; rw [if_neg c_13]; rw [if_neg c_14]; rw [if_neg c_16]; rw [if_neg c_18]; rw [if_neg c_19]; rw [if_neg c_20]; rw [if_neg c_21]; rw [if_neg c_22]; (first | done | rfl)) (hP.sub [1, 0] rfl) (hD.sub [1, 0] (by decide) rfl) hS dX8_about_178
    · exact absurd (by decide) c_6
--# X8_lowest
noncomputable def mX8_lowest_S11 (rf : Int32) (ss : Int32) (sp : Int32) (ig : Int32) (lf : Int32) (ac : Int32) (row : Nat → Int32) (p0 : Int32) (ih_11 : Int32 → Int32 → Int32) (x2h11 : Int32) (x3h11 : Int32) : Int32 :=
  if x3h11 < 0 then
    x2h11
  else
    if (row ((19 + x3h11) : Int32).toNatClampNeg) = p0 then
      ih_11 x3h11 (x3h11 + (-1))
    else
      ih_11 x2h11 (x3h11 + (-1))
noncomputable def mX8_lowest_L11 (rf : Int32) (ss : Int32) (sp : Int32) (ig : Int32) (lf : Int32) (ac : Int32) (row : Nat → Int32) (p0 : Int32) (k : Nat) : Int32 → Int32 → Int32 := Nat.rec (motive := fun _ => Int32 → Int32 → Int32) (fun x2h11 x3h11 => 0) (fun _ ih => mX8_lowest_S11 rf ss sp ig lf ac row p0 ih) k
theorem mX8_lowest_L11_z (rf : Int32) (ss : Int32) (sp : Int32) (ig : Int32) (lf : Int32) (ac : Int32) (row : Nat → Int32) (p0 : Int32) (x2h11 : Int32) (x3h11 : Int32) : mX8_lowest_L11 rf ss sp ig lf ac row p0 0 x2h11 x3h11 = 0 := rfl
theorem mX8_lowest_L11_s (rf : Int32) (ss : Int32) (sp : Int32) (ig : Int32) (lf : Int32) (ac : Int32) (row : Nat → Int32) (p0 : Int32) (k : Nat) (x2h11 : Int32) (x3h11 : Int32) : mX8_lowest_L11 rf ss sp ig lf ac row p0 (k + 1) x2h11 x3h11 = mX8_lowest_S11 rf ss sp ig lf ac row p0 (mX8_lowest_L11 rf ss sp ig lf ac row p0 k) x2h11 x3h11 := rfl
noncomputable def mX8_lowest (rf : Int32) (ss : Int32) (sp : Int32) (ig : Int32) (lf : Int32) (ac : Int32) (row : Nat → Int32) (p0 : Int32) : Int32 :=
  mX8_lowest_L11 rf ss sp ig lf ac row p0 49 (-1) ((row (3 : Int32).toNatClampNeg) - 1)
set_option maxRecDepth 20000 in
theorem iX8_lowest_X8 : ∀ w ∈ wsX80, w ∈ wsX8_lowest := by decide +kernel
abbrev rmX8_lowest : Room := { frames := 0, cells := 0, slots := 0, locals := 0 }
set_option maxHeartbeats 4000000 in
set_option maxRecDepth 100000 in
theorem c_X8_lowest (l : Launch) (D : va_G) (tc : Nat → ClassId) (mo : Nat) (sc : Nat) (rd : Nat) (nw : Nat) (tr : Nat) (di : Nat) (kp : Nat) (ik : Nat) (rf : Int32) (ss : Int32) (sp : Int32) (ig : Int32) (lf : Int32) (ac : Int32) (row : Nat → Int32) (p0 : Int32) (sz : Nat) (hR : RXn 51 row) : Met l yX8_lowest wsX8_lowest rmX8_lowest (va_Pc [.ref mo, .int p0] (fcB D tc [(mo, .inr (8, [.int rf, .ref sc, .int ss, .int sp, .int ig, .int lf, .ref rd, .ref nw, .ref tr, .ref di, .int ac, .ref kp, .ref ik])), (nw, .inl (tc 0, 357, .inl row))] sz)) (va_Qi (fun (r : Int32) (_ : Unit) => mX8_lowest rf ss sp ig lf ac row p0 = r) (fun u t => fcO D (va_A [(mo, .inr (8, [.int rf, .ref sc, .int ss, .int sp, .int ig, .int lf, .ref rd, .ref nw, .ref tr, .ref di, .int ac, .ref kp, .ref ik])), (nw, .inl (tc 0, 357, .inl row))] sz) ((fun (_ : Unit) => [(mo, .inr (8, [.int rf, .ref sc, .int ss, .int sp, .int ig, .int lf, .ref rd, .ref nw, .ref tr, .ref di, .int ac, .ref kp, .ref ik])), (nw, .inl (tc 0, 357, .inl row))]) u) t) (va_A [(mo, .inr (8, [.int rf, .ref sc, .int ss, .int sp, .int ig, .int lf, .ref rd, .ref nw, .ref tr, .ref di, .int ac, .ref kp, .ref ik])), (nw, .inl (tc 0, 357, .inl row))] sz)) 0 0 (va_A [(mo, .inr (8, [.int rf, .ref sc, .int ss, .int sp, .int ig, .int lf, .ref rd, .ref nw, .ref tr, .ref di, .int ac, .ref kp, .ref ik])), (nw, .inl (tc 0, 357, .inl row))] sz) := by
  refine fc_ofWi (own := RX8) (cc := cX8_lowest) (maxL := 4) (W1 := (fun (_ : Unit) => [(mo, .inr (8, [.int rf, .ref sc, .int ss, .int sp, .int ig, .int lf, .ref rd, .ref nw, .ref tr, .ref di, .int ac, .ref kp, .ref ik])), (nw, .inl (tc 0, 357, .inl row))])) rfl (by decide) rfl (Nat.le_of_ble_eq_true rfl) ?_
  intro p e s m args below meth c A Q hx hb hml hown hts hK hE hP hD hS hA hin hret ls hl
  have hl : lv_has ls 4 [(0, .ref mo), (1, .int p0)] := hl
  have k3 := (RX_K hR).1
  have k16 := (RX_K hR).2.1
  have k17 := (RX_K hR).2.2
  have k18 := RX_18 hR
  have b3 := fc_subk (x := row (3 : Int32).toNatClampNeg) (k := 1) (n := 1) (by decide) (by omega) (by omega)
  have b16 := fc_subk (x := row (16 : Int32).toNatClampNeg) (k := 1) (n := 1) (by decide) (by omega) (by omega)
  have b17 := fc_subk (x := row (17 : Int32).toNatClampNeg) (k := 1) (n := 1) (by decide) (by omega) (by omega)
  have b18 := fc_subk (x := row (18 : Int32).toNatClampNeg) (k := 1) (n := 1) (by decide) (by omega) (by omega)
  refine lv_iconst (v := (-1)) hx hb dX8_lowest_0 (by decide) ?_
  refine lv_istore_n (lv' := [(2, .int (-1)), (0, .ref mo), (1, .int p0)]) hx hb dX8_lowest_1 rfl hl (by decide) rfl (fun ls hl => ?_)
  refine lv_aload_n hx hb dX8_lowest_2 rfl (lv_at hl 1 rfl) ?_
  refine va_get (D := D) (ci := 8) (v := .ref nw) (C := RX8) (T := TX8) (N := 13) hx hb hts iX8_lowest_X8 hown hK hP 0 rfl rfl 7 (by decide) (hts (.fieldLink RX8 16 "FrameCardModel" "now" "[I") (by decide +kernel)) (fun _ h9 => h9) rfl dX8_lowest_3 ?_
  refine lv_iconst (v := 3) hx hb dX8_lowest_6 (by decide) ?_
  refine va_iald (D := D) hx hb hK hP 1 0 rfl rfl (vp_in_iff.mpr (by decide)) dX8_lowest_7 ?_
  refine lv_iconst (v := 1) hx hb dX8_lowest_8 (by decide) ?_
  refine lv_isub hx hb dX8_lowest_9 ?_
  refine lv_istore_n (lv' := [(3, .int ((row (3 : Int32).toNatClampNeg) - 1)), (2, .int (-1)), (0, .ref mo), (1, .int p0)]) hx hb dX8_lowest_10 rfl hl (by decide) rfl (fun ls hl => ?_)
  have loop_11 : ∀ (k_11 : Nat) (i_11 : Nat) (x2h11 : Int32) (x3h11 : Int32) (hb_11 : x3h11.toInt = (i_11 : Int) - 1) (hm_11 : i_11 ≤ 48 ∧ i_11 < k_11) (hI_11 : mX8_lowest rf ss sp ig lf ac row p0 = mX8_lowest_L11 rf ss sp ig lf ac row p0 k_11 x2h11 x3h11) (H : Heap) (locs : List Loc), va_P D vwCl [(mo, .inr (8, [.int rf, .ref sc, .int ss, .int sp, .int ig, .int lf, .ref rd, .ref nw, .ref tr, .ref di, .int ac, .ref kp, .ref ik])), (nw, .inl (tc 0, 357, .inl row))] H → va_D A [(mo, .inr (8, [.int rf, .ref sc, .int ss, .int sp, .int ig, .int lf, .ref rd, .ref nw, .ref tr, .ref di, .int ac, .ref kp, .ref ik])), (nw, .inl (tc 0, 357, .inl row))] → va_S A s.heap H locs → ∀ ls : Array Slot, lv_has ls 4 [(3, .int x3h11), (2, .int x2h11), (0, .ref mo), (1, .int p0)] → W p l e rmX8_lowest s m args below meth c H locs 0 0 Q (F0 m 11 ls []) := by
    intro k_11
    induction k_11 with
    | zero =>
      intro i_11 x2h11 x3h11 hb_11 hm_11 hI_11 H locs hP hD hS ls hl
      exact absurd hm_11 (by omega)
    | succ k_11 ih_11 =>
      intro i_11 x2h11 x3h11 hb_11 hm_11 hI_11 H locs hP hD hS ls hl
      refine lv_iload_n hx hb dX8_lowest_11 rfl (lv_at hl 0 rfl) ?_
      refine lv_if_lt (tgt := 40) hx hb dX8_lowest_12 (by decide) (fun c_1 => ?_) (fun c_1 => ?_)
      · refine lv_iload_n hx hb dX8_lowest_40 rfl (lv_at hl 1 rfl) ?_
        exact hret _ _ (x2h11) () _ _ (by rw [hI_11, mX8_lowest_L11_s, mX8_lowest_S11]; (try dsimp only); rw [if_pos c_1]; (first | done | rfl)) (hP.sub [0, 1] rfl) (hD.sub [0, 1] (by decide) rfl) hS dX8_lowest_41
      · refine lv_aload_n hx hb dX8_lowest_15 rfl (lv_at hl 2 rfl) ?_
        refine va_get (D := D) (ci := 8) (v := .ref nw) (C := RX8) (T := TX8) (N := 13) hx hb hts iX8_lowest_X8 hown hK hP 0 rfl rfl 7 (by decide) (hts (.fieldLink RX8 16 "FrameCardModel" "now" "[I") (by decide +kernel)) (fun _ h9 => h9) rfl dX8_lowest_16 ?_
        refine lv_bipush (v := 19) hx hb dX8_lowest_19 (by decide) ?_
        refine lv_iload_n hx hb dX8_lowest_21 rfl (lv_at hl 0 rfl) ?_
        refine lv_iadd hx hb dX8_lowest_22 ?_
        refine va_iald (D := D) hx hb hK hP 1 0 rfl rfl (by have l_0 : (0 : Int32).toInt = 0 := (by decide); have l_1 : (1 : Int32).toInt = 1 := (by decide); have l_19 : (19 : Int32).toInt = 19 := (by decide); have l_2 : (2 : Int32).toInt = 2 := (by decide); have l_3 : (3 : Int32).toInt = 3 := (by decide); have l_4 : (4 : Int32).toInt = 4 := (by decide); have qc_1 := c_1; (try simp only [fc_le, fc_lt, fc_eq] at qc_1); have a_1 := fc_kadd (x := x3h11) (k := 19) (n := 19) (by decide) (by omega) (by omega); rw [vp_in_iff]; omega) dX8_lowest_23 ?_
        refine lv_iload_n hx hb dX8_lowest_24 rfl (lv_at hl 3 rfl) ?_
        refine lv_icmp_ne (tgt := 32) hx hb dX8_lowest_25 (by decide) (fun c_2 => ?_) (fun c_2 => ?_)
        · refine lv_iload_n hx hb dX8_lowest_32 rfl (lv_at hl 1 rfl) ?_
          refine lv_istore_n (lv' := [(2, .int x2h11), (3, .int x3h11), (0, .ref mo), (1, .int p0)]) hx hb dX8_lowest_33 rfl hl (by decide) rfl (fun ls hl => ?_)
          refine lv_iinc (v := (x3h11 + (-1))) (lv' := [(3, .int (x3h11 + (-1))), (2, .int x2h11), (0, .ref mo), (1, .int p0)]) hx hb dX8_lowest_34 hl (k := 1) rfl rfl (by decide) rfl (fun ls hl => ?_)
          refine lv_goto (tgt := 11) hx hb dX8_lowest_37 (by decide) ?_
          exact ih_11 (i_11 - 1) x2h11 (x3h11 + (-1)) (fx_dec hb_11 (by have q1 := c_1; have l0 : (0 : Int32).toInt = 0 := (by decide); rw [fc_lt] at q1; omega)) (by have l_0 : (0 : Int32).toInt = 0 := (by decide); have l_1 : (1 : Int32).toInt = 1 := (by decide); have l_19 : (19 : Int32).toInt = 19 := (by decide); have l_2 : (2 : Int32).toInt = 2 := (by decide); have l_3 : (3 : Int32).toInt = 3 := (by decide); have l_4 : (4 : Int32).toInt = 4 := (by decide); have qc_1 := c_1; (try simp only [fc_le, fc_lt, fc_eq] at qc_1); have qc_2 := c_2; (try simp only [fc_le, fc_lt, fc_eq] at qc_2); skip; omega) (by rw [hI_11, mX8_lowest_L11_s, mX8_lowest_S11]; (try dsimp only); rw [if_neg c_1]; rw [if_neg c_2]; (first | done | rfl)) _ _ (hP.sub [0, 1] rfl) (hD.sub [0, 1] (by decide) rfl) hS ls (lv_sub hl [0, 1, 2, 3] rfl)
        · refine lv_iload_n hx hb dX8_lowest_28 rfl (lv_at hl 0 rfl) ?_
          refine lv_goto (tgt := 33) hx hb dX8_lowest_29 (by decide) ?_
          refine lv_istore_n (lv' := [(2, .int x3h11), (3, .int x3h11), (0, .ref mo), (1, .int p0)]) hx hb dX8_lowest_33 rfl hl (by decide) rfl (fun ls hl => ?_)
          refine lv_iinc (v := (x3h11 + (-1))) (lv' := [(3, .int (x3h11 + (-1))), (2, .int x3h11), (0, .ref mo), (1, .int p0)]) hx hb dX8_lowest_34 hl (k := 1) rfl rfl (by decide) rfl (fun ls hl => ?_)
          refine lv_goto (tgt := 11) hx hb dX8_lowest_37 (by decide) ?_
          exact ih_11 (i_11 - 1) x3h11 (x3h11 + (-1)) (fx_dec hb_11 (by have q1 := c_1; have l0 : (0 : Int32).toInt = 0 := (by decide); rw [fc_lt] at q1; omega)) (by have l_0 : (0 : Int32).toInt = 0 := (by decide); have l_1 : (1 : Int32).toInt = 1 := (by decide); have l_19 : (19 : Int32).toInt = 19 := (by decide); have l_2 : (2 : Int32).toInt = 2 := (by decide); have l_3 : (3 : Int32).toInt = 3 := (by decide); have l_4 : (4 : Int32).toInt = 4 := (by decide); have qc_1 := c_1; (try simp only [fc_le, fc_lt, fc_eq] at qc_1); have qc_2 := c_2; (try simp only [fc_le, fc_lt, fc_eq] at qc_2); skip; omega) (by rw [hI_11, mX8_lowest_L11_s, mX8_lowest_S11]; (try dsimp only); rw [if_neg c_1]; rw [if_pos c_2]; (first | done | rfl)) _ _ (hP.sub [0, 1] rfl) (hD.sub [0, 1] (by decide) rfl) hS ls (lv_sub hl [0, 1, 2, 3] rfl)
  exact loop_11 49 (row (3 : Int32).toNatClampNeg).toInt.toNat (-1) ((row (3 : Int32).toNatClampNeg) - 1) (by omega) (by omega) (by rw [mX8_lowest]; (first | done | rfl)) _ _ (hP.sub [0, 1] rfl) (hD.sub [0, 1] (by decide) rfl) hS ls (lv_sub hl [0, 1, 2, 3] rfl)
--# X8_frame
theorem hd_X8_isFrame : yX8_isFrame.cls = RX8 ∧ yX8_isFrame.cls ≠ "java/lang/invoke/MethodHandle" ∧ yX8_isFrame.cls ≠ "java/lang/invoke/VarHandle" ∧ (parseMethodDescriptor yX8_isFrame.desc).map (fun d => d.parameters.length) = some 1 := by decide +kernel
theorem hd_X8_isFramen : yX8_isFrame.cls ≠ "java/lang/invoke/MethodHandle" ∧ yX8_isFrame.cls ≠ "java/lang/invoke/VarHandle" ∧ (parseMethodDescriptor yX8_isFrame.desc).map (fun d => d.parameters.length) = some 1 := by decide +kernel
theorem hd_X8_lowest : yX8_lowest.cls = RX8 ∧ yX8_lowest.cls ≠ "java/lang/invoke/MethodHandle" ∧ yX8_lowest.cls ≠ "java/lang/invoke/VarHandle" ∧ (parseMethodDescriptor yX8_lowest.desc).map (fun d => d.parameters.length) = some 1 := by decide +kernel
theorem hd_X8_lowestn : yX8_lowest.cls ≠ "java/lang/invoke/MethodHandle" ∧ yX8_lowest.cls ≠ "java/lang/invoke/VarHandle" ∧ (parseMethodDescriptor yX8_lowest.desc).map (fun d => d.parameters.length) = some 1 := by decide +kernel
noncomputable def mX8_frame (rf : Int32) (ss : Int32) (sp : Int32) (ig : Int32) (lf : Int32) (ac : Int32) (row : Nat → Int32) (p0 : Int32) (p1 : Int32) : Int32 × Int32 :=
  let r_1 := mX8_isFrame rf ss sp ig lf ac row p0
  if r_1 = 0 then
    (0, 1)
  else
    let r_3 := mX8_in p1.toInt64 0 6
    if r_3 = 0 then
      (0, 2)
    else
      if p1 = 3 then
        let r_10 := mX8_changeOf row p0
        (r_10, 0)
      else
        if p1 = 4 then
          let r_12 := mX8_keptAt p0 (p1 - 1)
          ((row r_12.toNatClampNeg), 0)
        else
          if p1 = 5 then
            let r_14 := mX8_keptAt p0 (p1 - 1)
            ((row r_14.toNatClampNeg), 0)
          else
            if p1 = 6 then
              let r_16 := mX8_keptAt p0 0
              let r_17 := mX8_lowest 0 ss sp ig lf ac row (row r_16.toNatClampNeg)
              (r_17, 0)
            else
              let r_18 := mX8_keptAt p0 p1
              ((row r_18.toNatClampNeg), 0)
set_option maxRecDepth 20000 in
theorem iX8_frame_X8 : ∀ w ∈ wsX80, w ∈ wsX8_frame := by decide +kernel
abbrev rmX8_frame : Room := { frames := 2, cells := 0, slots := 0, locals := 47 }
set_option maxHeartbeats 4000000 in
set_option maxRecDepth 100000 in
theorem c_X8_frame (l : Launch) (D : va_G) (tc : Nat → ClassId) (mo : Nat) (sc : Nat) (rd : Nat) (nw : Nat) (tr : Nat) (di : Nat) (kp : Nat) (ik : Nat) (rf : Int32) (ss : Int32) (sp : Int32) (ig : Int32) (lf : Int32) (ac : Int32) (row : Nat → Int32) (p0 : Int32) (p1 : Int32) (sz : Nat) (hR : RXn 51 row) : Met l yX8_frame wsX8_frame rmX8_frame (va_Pc [.ref mo, .int p0, .int p1] (fcB D tc [(mo, .inr (8, [.int rf, .ref sc, .int ss, .int sp, .int ig, .int lf, .ref rd, .ref nw, .ref tr, .ref di, .int ac, .ref kp, .ref ik])), (nw, .inl (tc 0, 357, .inl row))] sz)) (va_Qi (fun (r : Int32) (u : Int32) => mX8_frame rf ss sp ig lf ac row p0 p1 = (r, u)) (fun u t => fcO D (va_A [(mo, .inr (8, [.int rf, .ref sc, .int ss, .int sp, .int ig, .int lf, .ref rd, .ref nw, .ref tr, .ref di, .int ac, .ref kp, .ref ik])), (nw, .inl (tc 0, 357, .inl row))] sz) ((fun (u : Int32) => [(mo, .inr (8, [.int u, .ref sc, .int ss, .int sp, .int ig, .int lf, .ref rd, .ref nw, .ref tr, .ref di, .int ac, .ref kp, .ref ik])), (nw, .inl (tc 0, 357, .inl row))]) u) t) (va_A [(mo, .inr (8, [.int rf, .ref sc, .int ss, .int sp, .int ig, .int lf, .ref rd, .ref nw, .ref tr, .ref di, .int ac, .ref kp, .ref ik])), (nw, .inl (tc 0, 357, .inl row))] sz)) 0 0 (va_A [(mo, .inr (8, [.int rf, .ref sc, .int ss, .int sp, .int ig, .int lf, .ref rd, .ref nw, .ref tr, .ref di, .int ac, .ref kp, .ref ik])), (nw, .inl (tc 0, 357, .inl row))] sz) := by
  refine fc_ofWi (own := RX8) (cc := cX8_frame) (maxL := 3) (W1 := (fun (u : Int32) => [(mo, .inr (8, [.int u, .ref sc, .int ss, .int sp, .int ig, .int lf, .ref rd, .ref nw, .ref tr, .ref di, .int ac, .ref kp, .ref ik])), (nw, .inl (tc 0, 357, .inl row))])) rfl (by decide) rfl (Nat.le_of_ble_eq_true rfl) ?_
  intro p e s m args below meth c A Q hx hb hml hown hts hK hE hP hD hS hA hin hret ls hl
  have hl : lv_has ls 3 [(0, .ref mo), (1, .int p0), (2, .int p1)] := hl
  have k3 := (RX_K hR).1
  have k16 := (RX_K hR).2.1
  have k17 := (RX_K hR).2.2
  have k18 := RX_18 hR
  have b3 := fc_subk (x := row (3 : Int32).toNatClampNeg) (k := 1) (n := 1) (by decide) (by omega) (by omega)
  have b16 := fc_subk (x := row (16 : Int32).toNatClampNeg) (k := 1) (n := 1) (by decide) (by omega) (by omega)
  have b17 := fc_subk (x := row (17 : Int32).toNatClampNeg) (k := 1) (n := 1) (by decide) (by omega) (by omega)
  have b18 := fc_subk (x := row (18 : Int32).toNatClampNeg) (k := 1) (n := 1) (by decide) (by omega) (by omega)
  refine lv_aload_n hx hb dX8_frame_0 rfl (lv_at hl 0 rfl) ?_
  refine lv_aload_n hx hb dX8_frame_1 rfl (lv_at hl 0 rfl) ?_
  refine lv_iload_n hx hb dX8_frame_2 rfl (lv_at hl 1 rfl) ?_
  refine fc_goi (isC := [0, 1]) (isR := []) (wc := [(mo, .inr (8, [.int rf, .ref sc, .int ss, .int sp, .int ig, .int lf, .ref rd, .ref nw, .ref tr, .ref di, .int ac, .ref kp, .ref ik])), (nw, .inl (tc 0, 357, .inl row))]) (wr := []) hP hD hS hA rfl rfl (by decide) (by decide) (fc_runV (isC := [0, 1]) (As := [.int p0]) (rest := [.ref mo]) hx hb hml hown hts hK hE hP hD hS hA rfl (by decide) (c_X8_isFrame l D tc mo sc rd nw tr di kp ik rf ss sp ig lf ac row p0 _ ) (cwV 1 hts gX8_frame_X8_isFrame rfl rfl rfl hd_X8_isFrame ⟨Nat.le_of_ble_eq_true rfl, Nat.le_of_ble_eq_true rfl⟩) (ci := 8) rfl rfl rfl rfl hl.1 rfl (Nat.le_of_ble_eq_true rfl) dX8_frame_3 ⟨Nat.le_of_ble_eq_true rfl, Nat.le_of_ble_eq_true rfl⟩) (fun r_1 u_1 H locs hw_1 hP hD hS => ?_)
  try dsimp only at hw_1
  have hP : va_P D vwCl [(mo, .inr (8, [.int rf, .ref sc, .int ss, .int sp, .int ig, .int lf, .ref rd, .ref nw, .ref tr, .ref di, .int ac, .ref kp, .ref ik])), (nw, .inl (tc 0, 357, .inl row))] H := hP
  have hD : va_D A [(mo, .inr (8, [.int rf, .ref sc, .int ss, .int sp, .int ig, .int lf, .ref rd, .ref nw, .ref tr, .ref di, .int ac, .ref kp, .ref ik])), (nw, .inl (tc 0, 357, .inl row))] := hD
  have hi_1 := fx_isFrame hw_1 k16
  refine lv_if_ne (tgt := 13) hx hb dX8_frame_6 (by decide) (fun c_2 => ?_) (fun c_2 => ?_)
  · have hj_1 := hi_1.resolve_left c_2
    refine lv_iload_n hx hb dX8_frame_13 rfl (lv_at hl 2 rfl) ?_
    refine lv_i2l hx hb dX8_frame_14 rfl ?_
    refine lv_lconst (v := 0) hx hb dX8_frame_15 (by decide) ?_
    refine lv_ldc2 (v := 6) hx hb hown (hts (.constantLong RX8 156 6) (by decide +kernel)) dX8_frame_16 ?_
    refine fc_goi (isC := []) (isR := [0, 1]) (wc := []) (wr := [(mo, .inr (8, [.int rf, .ref sc, .int ss, .int sp, .int ig, .int lf, .ref rd, .ref nw, .ref tr, .ref di, .int ac, .ref kp, .ref ik])), (nw, .inl (tc 0, 357, .inl row))]) hP hD hS hA rfl rfl (by decide) (by decide) (fc_runS (isC := []) (As := [.long p1.toInt64, .long 0, .long 6]) (rest := [.ref mo]) hx hb hml hown hts hK hE hP hD hS hA rfl (by decide) (c_X8_in l D tc p1.toInt64 0 6 _ ) (cwS 3 hts gX8_frame_X8_in rfl rfl rfl hd_X8_in ⟨Nat.le_of_ble_eq_true rfl, Nat.le_of_ble_eq_true rfl⟩) rfl hl.1 rfl (Nat.le_of_ble_eq_true rfl) dX8_frame_19 ⟨Nat.le_of_ble_eq_true rfl, Nat.le_of_ble_eq_true rfl⟩) (fun r_3 u_3 H locs hw_3 hP hD hS => ?_)
    try dsimp only at hw_3
    have hP : va_P D vwCl [(mo, .inr (8, [.int rf, .ref sc, .int ss, .int sp, .int ig, .int lf, .ref rd, .ref nw, .ref tr, .ref di, .int ac, .ref kp, .ref ik])), (nw, .inl (tc 0, 357, .inl row))] H := hP
    have hD : va_D A [(mo, .inr (8, [.int rf, .ref sc, .int ss, .int sp, .int ig, .int lf, .ref rd, .ref nw, .ref tr, .ref di, .int ac, .ref kp, .ref ik])), (nw, .inl (tc 0, 357, .inl row))] := hD
    have hi_3 := fx_in3 hw_3 (A := p1.toInt) (B := 0) (C := 6) (Int32.toInt_toInt64 _) (by decide) (by decide)
    refine lv_if_eq (tgt := 29) hx hb dX8_frame_22 (by decide) (fun c_4 => ?_) (fun c_4 => ?_)
    · refine lv_iconst (v := 2) hx hb dX8_frame_29 (by decide) ?_
      refine fc_goi (isC := [0]) (isR := [1]) (wc := [(mo, .inr (8, [.int rf, .ref sc, .int ss, .int sp, .int ig, .int lf, .ref rd, .ref nw, .ref tr, .ref di, .int ac, .ref kp, .ref ik]))]) (wr := [(nw, .inl (tc 0, 357, .inl row))]) hP hD hS hA rfl rfl (by decide) (by decide) (fc_runV (isC := [0]) (As := [.int 2]) (rest := []) hx hb hml hown hts hK hE hP hD hS hA rfl (by decide) (c_X8_refused l D tc mo sc rd nw tr di kp ik rf ss sp ig lf ac 2 _ ) (cwV 1 hts gX8_frame_X8_refused rfl rfl rfl hd_X8_refused ⟨Nat.le_of_ble_eq_true rfl, Nat.le_of_ble_eq_true rfl⟩) (ci := 8) rfl rfl rfl rfl hl.1 rfl (Nat.le_of_ble_eq_true rfl) dX8_frame_30 ⟨Nat.le_of_ble_eq_true rfl, Nat.le_of_ble_eq_true rfl⟩) (fun r_5 u_5 H locs hw_5 hP hD hS => ?_)
      obtain ⟨rf_5, rfl⟩ : ∃ z, z = u_5 := ⟨_, rfl⟩
      obtain ⟨z1_5, z2_5⟩ := fx_ref2 hw_5
      subst z1_5
      subst z2_5
      have hP : va_P D vwCl [(nw, .inl (tc 0, 357, .inl row)), (mo, .inr (8, [.int 2, .ref sc, .int ss, .int sp, .int ig, .int lf, .ref rd, .ref nw, .ref tr, .ref di, .int ac, .ref kp, .ref ik]))] H := hP
      have hD : va_D A [(nw, .inl (tc 0, 357, .inl row)), (mo, .inr (8, [.int 2, .ref sc, .int ss, .int sp, .int ig, .int lf, .ref rd, .ref nw, .ref tr, .ref di, .int ac, .ref kp, .ref ik]))] := hD
      refine lv_if_eq (tgt := 38) hx hb dX8_frame_33 (by decide) (fun c_6 => ?_) (fun c_6 => ?_)
      · exact absurd c_6 (by decide)
      · refine lv_iconst (v := 0) hx hb dX8_frame_36 (by decide) ?_
        exact hret _ _ (0) 2 _ _ (by rw [mX8_frame]; (try dsimp only); rw [hw_1]; (try dsimp only); rw [if_neg c_2]; rw [hw_3]; (try dsimp only); rw [if_pos c_4]; (first | done | rfl)) (hP.sub [1, 0] rfl) (hD.sub [1, 0] (by decide) rfl) hS dX8_frame_37
    · have hj_3 := hi_3.resolve_left c_4
      refine lv_iconst (v := 0) hx hb dX8_frame_25 (by decide) ?_
      refine lv_goto (tgt := 30) hx hb dX8_frame_26 (by decide) ?_
      refine fc_goi (isC := [0]) (isR := [1]) (wc := [(mo, .inr (8, [.int rf, .ref sc, .int ss, .int sp, .int ig, .int lf, .ref rd, .ref nw, .ref tr, .ref di, .int ac, .ref kp, .ref ik]))]) (wr := [(nw, .inl (tc 0, 357, .inl row))]) hP hD hS hA rfl rfl (by decide) (by decide) (fc_runV (isC := [0]) (As := [.int 0]) (rest := []) hx hb hml hown hts hK hE hP hD hS hA rfl (by decide) (c_X8_refused l D tc mo sc rd nw tr di kp ik rf ss sp ig lf ac 0 _ ) (cwV 1 hts gX8_frame_X8_refused rfl rfl rfl hd_X8_refused ⟨Nat.le_of_ble_eq_true rfl, Nat.le_of_ble_eq_true rfl⟩) (ci := 8) rfl rfl rfl rfl hl.1 rfl (Nat.le_of_ble_eq_true rfl) dX8_frame_30 ⟨Nat.le_of_ble_eq_true rfl, Nat.le_of_ble_eq_true rfl⟩) (fun r_7 u_7 H locs hw_7 hP hD hS => ?_)
      obtain ⟨rf_7, rfl⟩ : ∃ z, z = u_7 := ⟨_, rfl⟩
      obtain ⟨z1_7, z2_7⟩ := fx_ref0 hw_7
      subst z1_7
      subst z2_7
      have hP : va_P D vwCl [(nw, .inl (tc 0, 357, .inl row)), (mo, .inr (8, [.int 0, .ref sc, .int ss, .int sp, .int ig, .int lf, .ref rd, .ref nw, .ref tr, .ref di, .int ac, .ref kp, .ref ik]))] H := hP
      have hD : va_D A [(nw, .inl (tc 0, 357, .inl row)), (mo, .inr (8, [.int 0, .ref sc, .int ss, .int sp, .int ig, .int lf, .ref rd, .ref nw, .ref tr, .ref di, .int ac, .ref kp, .ref ik]))] := hD
      refine lv_if_eq (tgt := 38) hx hb dX8_frame_33 (by decide) (fun c_8 => ?_) (fun c_8 => ?_)
      · refine lv_iload_n hx hb dX8_frame_38 rfl (lv_at hl 2 rfl) ?_
        by_cases c_9 : p1 = 3
        · refine lv_tableIn (tgt := 68) hx hb dX8_frame_39 (by rw [c_9]; decide) (by rw [c_9]; decide) (by rw [c_9]; rfl) (by decide) ?_
          refine lv_aload_n hx hb dX8_frame_68 rfl (lv_at hl 0 rfl) ?_
          refine va_get (D := D) (ci := 8) (v := .ref nw) (C := RX8) (T := TX8) (N := 13) hx hb hts iX8_frame_X8 hown hK hP 1 rfl rfl 7 (by decide) (hts (.fieldLink RX8 16 "FrameCardModel" "now" "[I") (by decide +kernel)) (fun _ h9 => h9) rfl dX8_frame_69 ?_
          refine lv_iload_n hx hb dX8_frame_72 rfl (lv_at hl 1 rfl) ?_
          refine fc_goi (isC := [0]) (isR := [1]) (wc := [(nw, .inl (tc 0, 357, .inl row))]) (wr := [(mo, .inr (8, [.int 0, .ref sc, .int ss, .int sp, .int ig, .int lf, .ref rd, .ref nw, .ref tr, .ref di, .int ac, .ref kp, .ref ik]))]) hP hD hS hA rfl rfl (by decide) (by decide) (fc_runS (isC := [0]) (As := [.ref nw, .int p0]) (rest := []) hx hb hml hown hts hK hE hP hD hS hA rfl (by decide) (c_X8_changeOf l D tc nw row p0 _ ⟨by omega, by omega⟩) (cwS 2 hts gX8_frame_X8_changeOf rfl rfl rfl hd_X8_changeOf ⟨Nat.le_of_ble_eq_true rfl, Nat.le_of_ble_eq_true rfl⟩) rfl hl.1 rfl (Nat.le_of_ble_eq_true rfl) dX8_frame_73 ⟨Nat.le_of_ble_eq_true rfl, Nat.le_of_ble_eq_true rfl⟩) (fun r_10 u_10 H locs hw_10 hP hD hS => ?_)
          try dsimp only at hw_10
          have hP : va_P D vwCl [(mo, .inr (8, [.int 0, .ref sc, .int ss, .int sp, .int ig, .int lf, .ref rd, .ref nw, .ref tr, .ref di, .int ac, .ref kp, .ref ik])), (nw, .inl (tc 0, 357, .inl row))] H := hP
          have hD : va_D A [(mo, .inr (8, [.int 0, .ref sc, .int ss, .int sp, .int ig, .int lf, .ref rd, .ref nw, .ref tr, .ref di, .int ac, .ref kp, .ref ik])), (nw, .inl (tc 0, 357, .inl row))] := hD
          exact hret _ _ (r_10) 0 _ _ (by rw [mX8_frame]; (try dsimp only); rw [hw_1]; (try dsimp only); rw [if_neg c_2]; rw [hw_3]; (try dsimp only); rw [if_neg c_4]; rw [if_pos c_9]; rw [hw_10]; (try dsimp only); (first | done | rfl)) (hP.sub [0, 1] rfl) (hD.sub [0, 1] (by decide) rfl) hS dX8_frame_76
        by_cases c_11 : p1 = 4
        · refine lv_tableIn (tgt := 77) hx hb dX8_frame_39 (by rw [c_11]; decide) (by rw [c_11]; decide) (by rw [c_11]; rfl) (by decide) ?_
          refine lv_aload_n hx hb dX8_frame_77 rfl (lv_at hl 0 rfl) ?_
          refine va_get (D := D) (ci := 8) (v := .ref nw) (C := RX8) (T := TX8) (N := 13) hx hb hts iX8_frame_X8 hown hK hP 1 rfl rfl 7 (by decide) (hts (.fieldLink RX8 16 "FrameCardModel" "now" "[I") (by decide +kernel)) (fun _ h9 => h9) rfl dX8_frame_78 ?_
          refine lv_iload_n hx hb dX8_frame_81 rfl (lv_at hl 1 rfl) ?_
          refine lv_iload_n hx hb dX8_frame_82 rfl (lv_at hl 2 rfl) ?_
          refine lv_iconst (v := 1) hx hb dX8_frame_83 (by decide) ?_
          refine lv_isub hx hb dX8_frame_84 ?_
          have b1 := fc_subk (x := p1) (k := 1) (n := 1) (by decide) (by omega) (by omega)
          have l4 : (4 : Int32).toInt = 4 := by decide
          have l5 : (5 : Int32).toInt = 5 := by decide
          have qs : p1.toInt = 4 ∨ p1.toInt = 5 := by first | exact Or.inl (by rw [show p1 = 4 by assumption]; rfl) | exact Or.inr (by rw [show p1 = 5 by assumption]; rfl)
          refine fc_goi (isC := []) (isR := [0, 1]) (wc := []) (wr := [(nw, .inl (tc 0, 357, .inl row)), (mo, .inr (8, [.int 0, .ref sc, .int ss, .int sp, .int ig, .int lf, .ref rd, .ref nw, .ref tr, .ref di, .int ac, .ref kp, .ref ik]))]) hP hD hS hA rfl rfl (by decide) (by decide) (fc_runS (isC := []) (As := [.int p0, .int (p1 - 1)]) (rest := [.ref nw]) hx hb hml hown hts hK hE hP hD hS hA rfl (by decide) (c_X8_keptAt l D tc p0 (p1 - 1) _ ) (cwS 2 hts gX8_frame_X8_keptAt rfl rfl rfl hd_X8_keptAt ⟨Nat.le_of_ble_eq_true rfl, Nat.le_of_ble_eq_true rfl⟩) rfl hl.1 rfl (Nat.le_of_ble_eq_true rfl) dX8_frame_85 ⟨Nat.le_of_ble_eq_true rfl, Nat.le_of_ble_eq_true rfl⟩) (fun r_12 u_12 H locs hw_12 hP hD hS => ?_)
          try dsimp only at hw_12
          have hP : va_P D vwCl [(nw, .inl (tc 0, 357, .inl row)), (mo, .inr (8, [.int 0, .ref sc, .int ss, .int sp, .int ig, .int lf, .ref rd, .ref nw, .ref tr, .ref di, .int ac, .ref kp, .ref ik]))] H := hP
          have hD : va_D A [(nw, .inl (tc 0, 357, .inl row)), (mo, .inr (8, [.int 0, .ref sc, .int ss, .int sp, .int ig, .int lf, .ref rd, .ref nw, .ref tr, .ref di, .int ac, .ref kp, .ref ik]))] := hD
          have hf_12 := fx_keptAt hw_12 (by omega) (by omega)
          refine va_iald (D := D) hx hb hK hP 0 0 rfl rfl (by have l_0 : (0 : Int32).toInt = 0 := (by decide); have l_1 : (1 : Int32).toInt = 1 := (by decide); have l_16 : (16 : Int32).toInt = 16 := (by decide); have l_2 : (2 : Int32).toInt = 2 := (by decide); have l_3 : (3 : Int32).toInt = 3 := (by decide); have l_4 : (4 : Int32).toInt = 4 := (by decide); have l_6 : (6 : Int32).toInt = 6 := (by decide); have qc_2 := c_2; (try simp only [fc_le, fc_lt, fc_eq] at qc_2); have qc_4 := c_4; (try simp only [fc_le, fc_lt, fc_eq] at qc_4); have qc_9 := c_9; (try simp only [fc_le, fc_lt, fc_eq] at qc_9); have qc_11 := c_11; (try simp only [fc_le, fc_lt, fc_eq] at qc_11); have qhj_1 := hj_1; (try simp only [fc_le, fc_lt, fc_eq] at qhj_1); have qhj_3 := hj_3; (try simp only [fc_le, fc_lt, fc_eq] at qhj_3); rw [vp_in_iff]; omega) dX8_frame_88 ?_
          exact hret _ _ (row r_12.toNatClampNeg) 0 _ _ (by rw [mX8_frame]; (try dsimp only); rw [hw_1]; (try dsimp only); rw [if_neg c_2]; rw [hw_3]; (try dsimp only); rw [if_neg c_4]; rw [if_neg c_9]; rw [if_pos c_11]; rw [hw_12]; (try dsimp only); (first | done | rfl)) (hP.sub [1, 0] rfl) (hD.sub [1, 0] (by decide) rfl) hS dX8_frame_89
        by_cases c_13 : p1 = 5
        · refine lv_tableIn (tgt := 77) hx hb dX8_frame_39 (by rw [c_13]; decide) (by rw [c_13]; decide) (by rw [c_13]; rfl) (by decide) ?_
          refine lv_aload_n hx hb dX8_frame_77 rfl (lv_at hl 0 rfl) ?_
          refine va_get (D := D) (ci := 8) (v := .ref nw) (C := RX8) (T := TX8) (N := 13) hx hb hts iX8_frame_X8 hown hK hP 1 rfl rfl 7 (by decide) (hts (.fieldLink RX8 16 "FrameCardModel" "now" "[I") (by decide +kernel)) (fun _ h9 => h9) rfl dX8_frame_78 ?_
          refine lv_iload_n hx hb dX8_frame_81 rfl (lv_at hl 1 rfl) ?_
          refine lv_iload_n hx hb dX8_frame_82 rfl (lv_at hl 2 rfl) ?_
          refine lv_iconst (v := 1) hx hb dX8_frame_83 (by decide) ?_
          refine lv_isub hx hb dX8_frame_84 ?_
          have b1 := fc_subk (x := p1) (k := 1) (n := 1) (by decide) (by omega) (by omega)
          have l4 : (4 : Int32).toInt = 4 := by decide
          have l5 : (5 : Int32).toInt = 5 := by decide
          have qs : p1.toInt = 4 ∨ p1.toInt = 5 := by first | exact Or.inl (by rw [show p1 = 4 by assumption]; rfl) | exact Or.inr (by rw [show p1 = 5 by assumption]; rfl)
          refine fc_goi (isC := []) (isR := [0, 1]) (wc := []) (wr := [(nw, .inl (tc 0, 357, .inl row)), (mo, .inr (8, [.int 0, .ref sc, .int ss, .int sp, .int ig, .int lf, .ref rd, .ref nw, .ref tr, .ref di, .int ac, .ref kp, .ref ik]))]) hP hD hS hA rfl rfl (by decide) (by decide) (fc_runS (isC := []) (As := [.int p0, .int (p1 - 1)]) (rest := [.ref nw]) hx hb hml hown hts hK hE hP hD hS hA rfl (by decide) (c_X8_keptAt l D tc p0 (p1 - 1) _ ) (cwS 2 hts gX8_frame_X8_keptAt rfl rfl rfl hd_X8_keptAt ⟨Nat.le_of_ble_eq_true rfl, Nat.le_of_ble_eq_true rfl⟩) rfl hl.1 rfl (Nat.le_of_ble_eq_true rfl) dX8_frame_85 ⟨Nat.le_of_ble_eq_true rfl, Nat.le_of_ble_eq_true rfl⟩) (fun r_14 u_14 H locs hw_14 hP hD hS => ?_)
          try dsimp only at hw_14
          have hP : va_P D vwCl [(nw, .inl (tc 0, 357, .inl row)), (mo, .inr (8, [.int 0, .ref sc, .int ss, .int sp, .int ig, .int lf, .ref rd, .ref nw, .ref tr, .ref di, .int ac, .ref kp, .ref ik]))] H := hP
          have hD : va_D A [(nw, .inl (tc 0, 357, .inl row)), (mo, .inr (8, [.int 0, .ref sc, .int ss, .int sp, .int ig, .int lf, .ref rd, .ref nw, .ref tr, .ref di, .int ac, .ref kp, .ref ik]))] := hD
          have hf_14 := fx_keptAt hw_14 (by omega) (by omega)
          refine va_iald (D := D) hx hb hK hP 0 0 rfl rfl (by have l_0 : (0 : Int32).toInt = 0 := (by decide); have l_1 : (1 : Int32).toInt = 1 := (by decide); have l_16 : (16 : Int32).toInt = 16 := (by decide); have l_2 : (2 : Int32).toInt = 2 := (by decide); have l_3 : (3 : Int32).toInt = 3 := (by decide); have l_4 : (4 : Int32).toInt = 4 := (by decide); have l_5 : (5 : Int32).toInt = 5 := (by decide); have l_6 : (6 : Int32).toInt = 6 := (by decide); have qc_2 := c_2; (try simp only [fc_le, fc_lt, fc_eq] at qc_2); have qc_4 := c_4; (try simp only [fc_le, fc_lt, fc_eq] at qc_4); have qc_9 := c_9; (try simp only [fc_le, fc_lt, fc_eq] at qc_9); have qc_11 := c_11; (try simp only [fc_le, fc_lt, fc_eq] at qc_11); have qc_13 := c_13; (try simp only [fc_le, fc_lt, fc_eq] at qc_13); have qhj_1 := hj_1; (try simp only [fc_le, fc_lt, fc_eq] at qhj_1); have qhj_3 := hj_3; (try simp only [fc_le, fc_lt, fc_eq] at qhj_3); rw [vp_in_iff]; omega) dX8_frame_88 ?_
          exact hret _ _ (row r_14.toNatClampNeg) 0 _ _ (by rw [mX8_frame]; (try dsimp only); rw [hw_1]; (try dsimp only); rw [if_neg c_2]; rw [hw_3]; (try dsimp only); rw [if_neg c_4]; rw [if_neg c_9]; rw [if_neg c_11]; rw [if_pos c_13]; rw [hw_14]; (try dsimp only); (first | done | rfl)) (hP.sub [1, 0] rfl) (hD.sub [1, 0] (by decide) rfl) hS dX8_frame_89
        by_cases c_15 : p1 = 6
        · refine lv_tableIn (tgt := 90) hx hb dX8_frame_39 (by rw [c_15]; decide) (by rw [c_15]; decide) (by rw [c_15]; rfl) (by decide) ?_
          refine lv_aload_n hx hb dX8_frame_90 rfl (lv_at hl 0 rfl) ?_
          refine lv_aload_n hx hb dX8_frame_91 rfl (lv_at hl 0 rfl) ?_
          refine va_get (D := D) (ci := 8) (v := .ref nw) (C := RX8) (T := TX8) (N := 13) hx hb hts iX8_frame_X8 hown hK hP 1 rfl rfl 7 (by decide) (hts (.fieldLink RX8 16 "FrameCardModel" "now" "[I") (by decide +kernel)) (fun _ h9 => h9) rfl dX8_frame_92 ?_
          refine lv_iload_n hx hb dX8_frame_95 rfl (lv_at hl 1 rfl) ?_
          refine lv_iconst (v := 0) hx hb dX8_frame_96 (by decide) ?_
          refine fc_goi (isC := []) (isR := [0, 1]) (wc := []) (wr := [(nw, .inl (tc 0, 357, .inl row)), (mo, .inr (8, [.int 0, .ref sc, .int ss, .int sp, .int ig, .int lf, .ref rd, .ref nw, .ref tr, .ref di, .int ac, .ref kp, .ref ik]))]) hP hD hS hA rfl rfl (by decide) (by decide) (fc_runS (isC := []) (As := [.int p0, .int 0]) (rest := [.ref nw, .ref mo]) hx hb hml hown hts hK hE hP hD hS hA rfl (by decide) (c_X8_keptAt l D tc p0 0 _ ) (cwS 2 hts gX8_frame_X8_keptAt rfl rfl rfl hd_X8_keptAt ⟨Nat.le_of_ble_eq_true rfl, Nat.le_of_ble_eq_true rfl⟩) rfl hl.1 rfl (Nat.le_of_ble_eq_true rfl) dX8_frame_97 ⟨Nat.le_of_ble_eq_true rfl, Nat.le_of_ble_eq_true rfl⟩) (fun r_16 u_16 H locs hw_16 hP hD hS => ?_)
          try dsimp only at hw_16
          have hP : va_P D vwCl [(nw, .inl (tc 0, 357, .inl row)), (mo, .inr (8, [.int 0, .ref sc, .int ss, .int sp, .int ig, .int lf, .ref rd, .ref nw, .ref tr, .ref di, .int ac, .ref kp, .ref ik]))] H := hP
          have hD : va_D A [(nw, .inl (tc 0, 357, .inl row)), (mo, .inr (8, [.int 0, .ref sc, .int ss, .int sp, .int ig, .int lf, .ref rd, .ref nw, .ref tr, .ref di, .int ac, .ref kp, .ref ik]))] := hD
          have hf_16 := fx_keptAt hw_16 (by omega) (by decide)
          refine va_iald (D := D) hx hb hK hP 0 0 rfl rfl (by have l_0 : (0 : Int32).toInt = 0 := (by decide); have l_1 : (1 : Int32).toInt = 1 := (by decide); have l_16 : (16 : Int32).toInt = 16 := (by decide); have l_2 : (2 : Int32).toInt = 2 := (by decide); have l_3 : (3 : Int32).toInt = 3 := (by decide); have l_4 : (4 : Int32).toInt = 4 := (by decide); have l_5 : (5 : Int32).toInt = 5 := (by decide); have l_6 : (6 : Int32).toInt = 6 := (by decide); have qc_2 := c_2; (try simp only [fc_le, fc_lt, fc_eq] at qc_2); have qc_4 := c_4; (try simp only [fc_le, fc_lt, fc_eq] at qc_4); have qc_9 := c_9; (try simp only [fc_le, fc_lt, fc_eq] at qc_9); have qc_11 := c_11; (try simp only [fc_le, fc_lt, fc_eq] at qc_11); have qc_13 := c_13; (try simp only [fc_le, fc_lt, fc_eq] at qc_13); have qc_15 := c_15; (try simp only [fc_le, fc_lt, fc_eq] at qc_15); have qhj_1 := hj_1; (try simp only [fc_le, fc_lt, fc_eq] at qhj_1); have qhj_3 := hj_3; (try simp only [fc_le, fc_lt, fc_eq] at qhj_3); rw [vp_in_iff]; omega) dX8_frame_100 ?_
          refine fc_goi (isC := [1, 0]) (isR := []) (wc := [(mo, .inr (8, [.int 0, .ref sc, .int ss, .int sp, .int ig, .int lf, .ref rd, .ref nw, .ref tr, .ref di, .int ac, .ref kp, .ref ik])), (nw, .inl (tc 0, 357, .inl row))]) (wr := []) hP hD hS hA rfl rfl (by decide) (by decide) (fc_runV (isC := [1, 0]) (As := [.int (row r_16.toNatClampNeg)]) (rest := []) hx hb hml hown hts hK hE hP hD hS hA rfl (by decide) (c_X8_lowest l D tc mo sc rd nw tr di kp ik 0 ss sp ig lf ac row (row r_16.toNatClampNeg) _ hR) (cwV 1 hts gX8_frame_X8_lowest rfl rfl rfl hd_X8_lowest ⟨Nat.le_of_ble_eq_true rfl, Nat.le_of_ble_eq_true rfl⟩) (ci := 8) rfl rfl rfl rfl hl.1 rfl (Nat.le_of_ble_eq_true rfl) dX8_frame_101 ⟨Nat.le_of_ble_eq_true rfl, Nat.le_of_ble_eq_true rfl⟩) (fun r_17 u_17 H locs hw_17 hP hD hS => ?_)
          try dsimp only at hw_17
          have hP : va_P D vwCl [(mo, .inr (8, [.int 0, .ref sc, .int ss, .int sp, .int ig, .int lf, .ref rd, .ref nw, .ref tr, .ref di, .int ac, .ref kp, .ref ik])), (nw, .inl (tc 0, 357, .inl row))] H := hP
          have hD : va_D A [(mo, .inr (8, [.int 0, .ref sc, .int ss, .int sp, .int ig, .int lf, .ref rd, .ref nw, .ref tr, .ref di, .int ac, .ref kp, .ref ik])), (nw, .inl (tc 0, 357, .inl row))] := hD
          exact hret _ _ (r_17) 0 _ _ (by rw [mX8_frame]; (try dsimp only); rw [hw_1]; (try dsimp only); rw [if_neg c_2]; rw [hw_3]; (try dsimp only); rw [if_neg c_4]; rw [if_neg c_9]; rw [if_neg c_11]; rw [if_neg c_13]; rw [if_pos c_15]; rw [hw_16]; (try dsimp only); rw [hw_17]; (try dsimp only); (first | done | rfl)) (hP.sub [0, 1] rfl) (hD.sub [0, 1] (by decide) rfl) hS dX8_frame_104
        refine lv_tableOut (tgt := 105) hx hb dX8_frame_39 (by have qc_9 := c_9; simp only [fc_eq] at qc_9; have lc_9 : (3 : Int32).toInt = 3 := (by decide); have qc_11 := c_11; simp only [fc_eq] at qc_11; have lc_11 : (4 : Int32).toInt = 4 := (by decide); have qc_13 := c_13; simp only [fc_eq] at qc_13; have lc_13 : (5 : Int32).toInt = 5 := (by decide); have qc_15 := c_15; simp only [fc_eq] at qc_15; have lc_15 : (6 : Int32).toInt = 6 := (by decide); omega) (by decide) ?_
        refine lv_aload_n hx hb dX8_frame_105 rfl (lv_at hl 0 rfl) ?_
        refine va_get (D := D) (ci := 8) (v := .ref nw) (C := RX8) (T := TX8) (N := 13) hx hb hts iX8_frame_X8 hown hK hP 1 rfl rfl 7 (by decide) (hts (.fieldLink RX8 16 "FrameCardModel" "now" "[I") (by decide +kernel)) (fun _ h9 => h9) rfl dX8_frame_106 ?_
        refine lv_iload_n hx hb dX8_frame_109 rfl (lv_at hl 1 rfl) ?_
        refine lv_iload_n hx hb dX8_frame_110 rfl (lv_at hl 2 rfl) ?_
        refine fc_goi (isC := []) (isR := [0, 1]) (wc := []) (wr := [(nw, .inl (tc 0, 357, .inl row)), (mo, .inr (8, [.int 0, .ref sc, .int ss, .int sp, .int ig, .int lf, .ref rd, .ref nw, .ref tr, .ref di, .int ac, .ref kp, .ref ik]))]) hP hD hS hA rfl rfl (by decide) (by decide) (fc_runS (isC := []) (As := [.int p0, .int p1]) (rest := [.ref nw]) hx hb hml hown hts hK hE hP hD hS hA rfl (by decide) (c_X8_keptAt l D tc p0 p1 _ ) (cwS 2 hts gX8_frame_X8_keptAt rfl rfl rfl hd_X8_keptAt ⟨Nat.le_of_ble_eq_true rfl, Nat.le_of_ble_eq_true rfl⟩) rfl hl.1 rfl (Nat.le_of_ble_eq_true rfl) dX8_frame_111 ⟨Nat.le_of_ble_eq_true rfl, Nat.le_of_ble_eq_true rfl⟩) (fun r_18 u_18 H locs hw_18 hP hD hS => ?_)
        try dsimp only at hw_18
        have hP : va_P D vwCl [(nw, .inl (tc 0, 357, .inl row)), (mo, .inr (8, [.int 0, .ref sc, .int ss, .int sp, .int ig, .int lf, .ref rd, .ref nw, .ref tr, .ref di, .int ac, .ref kp, .ref ik]))] H := hP
        have hD : va_D A [(nw, .inl (tc 0, 357, .inl row)), (mo, .inr (8, [.int 0, .ref sc, .int ss, .int sp, .int ig, .int lf, .ref rd, .ref nw, .ref tr, .ref di, .int ac, .ref kp, .ref ik]))] := hD
        have hf_18 := fx_keptAt hw_18 (by omega) (by omega)
        refine va_iald (D := D) hx hb hK hP 0 0 rfl rfl (by have l_0 : (0 : Int32).toInt = 0 := (by decide); have l_1 : (1 : Int32).toInt = 1 := (by decide); have l_16 : (16 : Int32).toInt = 16 := (by decide); have l_2 : (2 : Int32).toInt = 2 := (by decide); have l_3 : (3 : Int32).toInt = 3 := (by decide); have l_4 : (4 : Int32).toInt = 4 := (by decide); have l_5 : (5 : Int32).toInt = 5 := (by decide); have l_6 : (6 : Int32).toInt = 6 := (by decide); have qc_2 := c_2; (try simp only [fc_le, fc_lt, fc_eq] at qc_2); have qc_4 := c_4; (try simp only [fc_le, fc_lt, fc_eq] at qc_4); have qc_9 := c_9; (try simp only [fc_le, fc_lt, fc_eq] at qc_9); have qc_11 := c_11; (try simp only [fc_le, fc_lt, fc_eq] at qc_11); have qc_13 := c_13; (try simp only [fc_le, fc_lt, fc_eq] at qc_13); have qc_15 := c_15; (try simp only [fc_le, fc_lt, fc_eq] at qc_15); have qhj_1 := hj_1; (try simp only [fc_le, fc_lt, fc_eq] at qhj_1); have qhj_3 := hj_3; (try simp only [fc_le, fc_lt, fc_eq] at qhj_3); rw [vp_in_iff]; omega) dX8_frame_114 ?_
        exact hret _ _ (row r_18.toNatClampNeg) 0 _ _ (by rw [mX8_frame]; (try dsimp only); rw [hw_1]; (try dsimp only); rw [if_neg c_2]; rw [hw_3]; (try dsimp only); rw [if_neg c_4]; rw [if_neg c_9]; rw [if_neg c_11]; rw [if_neg c_13]; rw [if_neg c_15]; rw [hw_18]; (try dsimp only); (first | done | rfl)) (hP.sub [1, 0] rfl) (hD.sub [1, 0] (by decide) rfl) hS dX8_frame_115
      · exact absurd (by decide) c_8
  · refine lv_iconst (v := 1) hx hb dX8_frame_9 (by decide) ?_
    refine lv_goto (tgt := 30) hx hb dX8_frame_10 (by decide) ?_
    refine fc_goi (isC := [0]) (isR := [1]) (wc := [(mo, .inr (8, [.int rf, .ref sc, .int ss, .int sp, .int ig, .int lf, .ref rd, .ref nw, .ref tr, .ref di, .int ac, .ref kp, .ref ik]))]) (wr := [(nw, .inl (tc 0, 357, .inl row))]) hP hD hS hA rfl rfl (by decide) (by decide) (fc_runV (isC := [0]) (As := [.int 1]) (rest := []) hx hb hml hown hts hK hE hP hD hS hA rfl (by decide) (c_X8_refused l D tc mo sc rd nw tr di kp ik rf ss sp ig lf ac 1 _ ) (cwV 1 hts gX8_frame_X8_refused rfl rfl rfl hd_X8_refused ⟨Nat.le_of_ble_eq_true rfl, Nat.le_of_ble_eq_true rfl⟩) (ci := 8) rfl rfl rfl rfl hl.1 rfl (Nat.le_of_ble_eq_true rfl) dX8_frame_30 ⟨Nat.le_of_ble_eq_true rfl, Nat.le_of_ble_eq_true rfl⟩) (fun r_19 u_19 H locs hw_19 hP hD hS => ?_)
    obtain ⟨rf_19, rfl⟩ : ∃ z, z = u_19 := ⟨_, rfl⟩
    obtain ⟨z1_19, z2_19⟩ := fx_ref1 hw_19
    subst z1_19
    subst z2_19
    have hP : va_P D vwCl [(nw, .inl (tc 0, 357, .inl row)), (mo, .inr (8, [.int 1, .ref sc, .int ss, .int sp, .int ig, .int lf, .ref rd, .ref nw, .ref tr, .ref di, .int ac, .ref kp, .ref ik]))] H := hP
    have hD : va_D A [(nw, .inl (tc 0, 357, .inl row)), (mo, .inr (8, [.int 1, .ref sc, .int ss, .int sp, .int ig, .int lf, .ref rd, .ref nw, .ref tr, .ref di, .int ac, .ref kp, .ref ik]))] := hD
    refine lv_if_eq (tgt := 38) hx hb dX8_frame_33 (by decide) (fun c_20 => ?_) (fun c_20 => ?_)
    · exact absurd c_20 (by decide)
    · refine lv_iconst (v := 0) hx hb dX8_frame_36 (by decide) ?_
      exact hret _ _ (0) 1 _ _ (by rw [mX8_frame]; (try dsimp only); rw [hw_1]; (try dsimp only); rw [if_pos c_2]; (first | done | rfl)) (hP.sub [1, 0] rfl) (hD.sub [1, 0] (by decide) rfl) hS dX8_frame_37
--# X8_waiting
theorem hd_X8_isWaiting : yX8_isWaiting.cls = RX8 ∧ yX8_isWaiting.cls ≠ "java/lang/invoke/MethodHandle" ∧ yX8_isWaiting.cls ≠ "java/lang/invoke/VarHandle" ∧ (parseMethodDescriptor yX8_isWaiting.desc).map (fun d => d.parameters.length) = some 1 := by decide +kernel
theorem hd_X8_isWaitingn : yX8_isWaiting.cls ≠ "java/lang/invoke/MethodHandle" ∧ yX8_isWaiting.cls ≠ "java/lang/invoke/VarHandle" ∧ (parseMethodDescriptor yX8_isWaiting.desc).map (fun d => d.parameters.length) = some 1 := by decide +kernel
noncomputable def mX8_waiting (rf : Int32) (ss : Int32) (sp : Int32) (ig : Int32) (lf : Int32) (ac : Int32) (row : Nat → Int32) (p0 : Int32) (p1 : Int32) : Int32 × Int32 :=
  let r_1 := mX8_isWaiting rf ss sp ig lf ac row p0
  if r_1 = 0 then
    (0, 1)
  else
    let r_3 := mX8_in p1.toInt64 0 3
    if r_3 = 0 then
      (0, 2)
    else
      let r_9 := mX8_waitAt p0 p1
      ((row r_9.toNatClampNeg), 0)
set_option maxRecDepth 20000 in
theorem iX8_waiting_X8 : ∀ w ∈ wsX80, w ∈ wsX8_waiting := by decide +kernel
abbrev rmX8_waiting : Room := { frames := 2, cells := 0, slots := 0, locals := 46 }
set_option maxHeartbeats 4000000 in
set_option maxRecDepth 100000 in
theorem c_X8_waiting (l : Launch) (D : va_G) (tc : Nat → ClassId) (mo : Nat) (sc : Nat) (rd : Nat) (nw : Nat) (tr : Nat) (di : Nat) (kp : Nat) (ik : Nat) (rf : Int32) (ss : Int32) (sp : Int32) (ig : Int32) (lf : Int32) (ac : Int32) (row : Nat → Int32) (p0 : Int32) (p1 : Int32) (sz : Nat) (hR : RXn 51 row) : Met l yX8_waiting wsX8_waiting rmX8_waiting (va_Pc [.ref mo, .int p0, .int p1] (fcB D tc [(mo, .inr (8, [.int rf, .ref sc, .int ss, .int sp, .int ig, .int lf, .ref rd, .ref nw, .ref tr, .ref di, .int ac, .ref kp, .ref ik])), (nw, .inl (tc 0, 357, .inl row))] sz)) (va_Qi (fun (r : Int32) (u : Int32) => mX8_waiting rf ss sp ig lf ac row p0 p1 = (r, u)) (fun u t => fcO D (va_A [(mo, .inr (8, [.int rf, .ref sc, .int ss, .int sp, .int ig, .int lf, .ref rd, .ref nw, .ref tr, .ref di, .int ac, .ref kp, .ref ik])), (nw, .inl (tc 0, 357, .inl row))] sz) ((fun (u : Int32) => [(mo, .inr (8, [.int u, .ref sc, .int ss, .int sp, .int ig, .int lf, .ref rd, .ref nw, .ref tr, .ref di, .int ac, .ref kp, .ref ik])), (nw, .inl (tc 0, 357, .inl row))]) u) t) (va_A [(mo, .inr (8, [.int rf, .ref sc, .int ss, .int sp, .int ig, .int lf, .ref rd, .ref nw, .ref tr, .ref di, .int ac, .ref kp, .ref ik])), (nw, .inl (tc 0, 357, .inl row))] sz)) 0 0 (va_A [(mo, .inr (8, [.int rf, .ref sc, .int ss, .int sp, .int ig, .int lf, .ref rd, .ref nw, .ref tr, .ref di, .int ac, .ref kp, .ref ik])), (nw, .inl (tc 0, 357, .inl row))] sz) := by
  refine fc_ofWi (own := RX8) (cc := cX8_waiting) (maxL := 3) (W1 := (fun (u : Int32) => [(mo, .inr (8, [.int u, .ref sc, .int ss, .int sp, .int ig, .int lf, .ref rd, .ref nw, .ref tr, .ref di, .int ac, .ref kp, .ref ik])), (nw, .inl (tc 0, 357, .inl row))])) rfl (by decide) rfl (Nat.le_of_ble_eq_true rfl) ?_
  intro p e s m args below meth c A Q hx hb hml hown hts hK hE hP hD hS hA hin hret ls hl
  have hl : lv_has ls 3 [(0, .ref mo), (1, .int p0), (2, .int p1)] := hl
  have k3 := (RX_K hR).1
  have k16 := (RX_K hR).2.1
  have k17 := (RX_K hR).2.2
  have k18 := RX_18 hR
  have b3 := fc_subk (x := row (3 : Int32).toNatClampNeg) (k := 1) (n := 1) (by decide) (by omega) (by omega)
  have b16 := fc_subk (x := row (16 : Int32).toNatClampNeg) (k := 1) (n := 1) (by decide) (by omega) (by omega)
  have b17 := fc_subk (x := row (17 : Int32).toNatClampNeg) (k := 1) (n := 1) (by decide) (by omega) (by omega)
  have b18 := fc_subk (x := row (18 : Int32).toNatClampNeg) (k := 1) (n := 1) (by decide) (by omega) (by omega)
  refine lv_aload_n hx hb dX8_waiting_0 rfl (lv_at hl 0 rfl) ?_
  refine lv_aload_n hx hb dX8_waiting_1 rfl (lv_at hl 0 rfl) ?_
  refine lv_iload_n hx hb dX8_waiting_2 rfl (lv_at hl 1 rfl) ?_
  refine fc_goi (isC := [0, 1]) (isR := []) (wc := [(mo, .inr (8, [.int rf, .ref sc, .int ss, .int sp, .int ig, .int lf, .ref rd, .ref nw, .ref tr, .ref di, .int ac, .ref kp, .ref ik])), (nw, .inl (tc 0, 357, .inl row))]) (wr := []) hP hD hS hA rfl rfl (by decide) (by decide) (fc_runV (isC := [0, 1]) (As := [.int p0]) (rest := [.ref mo]) hx hb hml hown hts hK hE hP hD hS hA rfl (by decide) (c_X8_isWaiting l D tc mo sc rd nw tr di kp ik rf ss sp ig lf ac row p0 _ ) (cwV 1 hts gX8_waiting_X8_isWaiting rfl rfl rfl hd_X8_isWaiting ⟨Nat.le_of_ble_eq_true rfl, Nat.le_of_ble_eq_true rfl⟩) (ci := 8) rfl rfl rfl rfl hl.1 rfl (Nat.le_of_ble_eq_true rfl) dX8_waiting_3 ⟨Nat.le_of_ble_eq_true rfl, Nat.le_of_ble_eq_true rfl⟩) (fun r_1 u_1 H locs hw_1 hP hD hS => ?_)
  try dsimp only at hw_1
  have hP : va_P D vwCl [(mo, .inr (8, [.int rf, .ref sc, .int ss, .int sp, .int ig, .int lf, .ref rd, .ref nw, .ref tr, .ref di, .int ac, .ref kp, .ref ik])), (nw, .inl (tc 0, 357, .inl row))] H := hP
  have hD : va_D A [(mo, .inr (8, [.int rf, .ref sc, .int ss, .int sp, .int ig, .int lf, .ref rd, .ref nw, .ref tr, .ref di, .int ac, .ref kp, .ref ik])), (nw, .inl (tc 0, 357, .inl row))] := hD
  have hi_1 := fx_isWaiting hw_1 k17
  refine lv_if_ne (tgt := 13) hx hb dX8_waiting_6 (by decide) (fun c_2 => ?_) (fun c_2 => ?_)
  · have hj_1 := hi_1.resolve_left c_2
    refine lv_iload_n hx hb dX8_waiting_13 rfl (lv_at hl 2 rfl) ?_
    refine lv_i2l hx hb dX8_waiting_14 rfl ?_
    refine lv_lconst (v := 0) hx hb dX8_waiting_15 (by decide) ?_
    refine lv_ldc2 (v := 3) hx hb hown (hts (.constantLong RX8 164 3) (by decide +kernel)) dX8_waiting_16 ?_
    refine fc_goi (isC := []) (isR := [0, 1]) (wc := []) (wr := [(mo, .inr (8, [.int rf, .ref sc, .int ss, .int sp, .int ig, .int lf, .ref rd, .ref nw, .ref tr, .ref di, .int ac, .ref kp, .ref ik])), (nw, .inl (tc 0, 357, .inl row))]) hP hD hS hA rfl rfl (by decide) (by decide) (fc_runS (isC := []) (As := [.long p1.toInt64, .long 0, .long 3]) (rest := [.ref mo]) hx hb hml hown hts hK hE hP hD hS hA rfl (by decide) (c_X8_in l D tc p1.toInt64 0 3 _ ) (cwS 3 hts gX8_waiting_X8_in rfl rfl rfl hd_X8_in ⟨Nat.le_of_ble_eq_true rfl, Nat.le_of_ble_eq_true rfl⟩) rfl hl.1 rfl (Nat.le_of_ble_eq_true rfl) dX8_waiting_19 ⟨Nat.le_of_ble_eq_true rfl, Nat.le_of_ble_eq_true rfl⟩) (fun r_3 u_3 H locs hw_3 hP hD hS => ?_)
    try dsimp only at hw_3
    have hP : va_P D vwCl [(mo, .inr (8, [.int rf, .ref sc, .int ss, .int sp, .int ig, .int lf, .ref rd, .ref nw, .ref tr, .ref di, .int ac, .ref kp, .ref ik])), (nw, .inl (tc 0, 357, .inl row))] H := hP
    have hD : va_D A [(mo, .inr (8, [.int rf, .ref sc, .int ss, .int sp, .int ig, .int lf, .ref rd, .ref nw, .ref tr, .ref di, .int ac, .ref kp, .ref ik])), (nw, .inl (tc 0, 357, .inl row))] := hD
    have hi_3 := fx_in3 hw_3 (A := p1.toInt) (B := 0) (C := 3) (Int32.toInt_toInt64 _) (by decide) (by decide)
    refine lv_if_eq (tgt := 29) hx hb dX8_waiting_22 (by decide) (fun c_4 => ?_) (fun c_4 => ?_)
    · refine lv_iconst (v := 2) hx hb dX8_waiting_29 (by decide) ?_
      refine fc_goi (isC := [0]) (isR := [1]) (wc := [(mo, .inr (8, [.int rf, .ref sc, .int ss, .int sp, .int ig, .int lf, .ref rd, .ref nw, .ref tr, .ref di, .int ac, .ref kp, .ref ik]))]) (wr := [(nw, .inl (tc 0, 357, .inl row))]) hP hD hS hA rfl rfl (by decide) (by decide) (fc_runV (isC := [0]) (As := [.int 2]) (rest := []) hx hb hml hown hts hK hE hP hD hS hA rfl (by decide) (c_X8_refused l D tc mo sc rd nw tr di kp ik rf ss sp ig lf ac 2 _ ) (cwV 1 hts gX8_waiting_X8_refused rfl rfl rfl hd_X8_refused ⟨Nat.le_of_ble_eq_true rfl, Nat.le_of_ble_eq_true rfl⟩) (ci := 8) rfl rfl rfl rfl hl.1 rfl (Nat.le_of_ble_eq_true rfl) dX8_waiting_30 ⟨Nat.le_of_ble_eq_true rfl, Nat.le_of_ble_eq_true rfl⟩) (fun r_5 u_5 H locs hw_5 hP hD hS => ?_)
      obtain ⟨rf_5, rfl⟩ : ∃ z, z = u_5 := ⟨_, rfl⟩
      obtain ⟨z1_5, z2_5⟩ := fx_ref2 hw_5
      subst z1_5
      subst z2_5
      have hP : va_P D vwCl [(nw, .inl (tc 0, 357, .inl row)), (mo, .inr (8, [.int 2, .ref sc, .int ss, .int sp, .int ig, .int lf, .ref rd, .ref nw, .ref tr, .ref di, .int ac, .ref kp, .ref ik]))] H := hP
      have hD : va_D A [(nw, .inl (tc 0, 357, .inl row)), (mo, .inr (8, [.int 2, .ref sc, .int ss, .int sp, .int ig, .int lf, .ref rd, .ref nw, .ref tr, .ref di, .int ac, .ref kp, .ref ik]))] := hD
      refine lv_if_eq (tgt := 40) hx hb dX8_waiting_33 (by decide) (fun c_6 => ?_) (fun c_6 => ?_)
      · exact absurd c_6 (by decide)
      · refine lv_iconst (v := 0) hx hb dX8_waiting_36 (by decide) ?_
        refine lv_goto (tgt := 50) hx hb dX8_waiting_37 (by decide) ?_
        exact hret _ _ (0) 2 _ _ (by rw [mX8_waiting]; (try dsimp only); rw [hw_1]; (try dsimp only); rw [if_neg c_2]; rw [hw_3]; (try dsimp only); rw [if_pos c_4]; (first | done | rfl)) (hP.sub [1, 0] rfl) (hD.sub [1, 0] (by decide) rfl) hS dX8_waiting_50
    · have hj_3 := hi_3.resolve_left c_4
      refine lv_iconst (v := 0) hx hb dX8_waiting_25 (by decide) ?_
      refine lv_goto (tgt := 30) hx hb dX8_waiting_26 (by decide) ?_
      refine fc_goi (isC := [0]) (isR := [1]) (wc := [(mo, .inr (8, [.int rf, .ref sc, .int ss, .int sp, .int ig, .int lf, .ref rd, .ref nw, .ref tr, .ref di, .int ac, .ref kp, .ref ik]))]) (wr := [(nw, .inl (tc 0, 357, .inl row))]) hP hD hS hA rfl rfl (by decide) (by decide) (fc_runV (isC := [0]) (As := [.int 0]) (rest := []) hx hb hml hown hts hK hE hP hD hS hA rfl (by decide) (c_X8_refused l D tc mo sc rd nw tr di kp ik rf ss sp ig lf ac 0 _ ) (cwV 1 hts gX8_waiting_X8_refused rfl rfl rfl hd_X8_refused ⟨Nat.le_of_ble_eq_true rfl, Nat.le_of_ble_eq_true rfl⟩) (ci := 8) rfl rfl rfl rfl hl.1 rfl (Nat.le_of_ble_eq_true rfl) dX8_waiting_30 ⟨Nat.le_of_ble_eq_true rfl, Nat.le_of_ble_eq_true rfl⟩) (fun r_7 u_7 H locs hw_7 hP hD hS => ?_)
      obtain ⟨rf_7, rfl⟩ : ∃ z, z = u_7 := ⟨_, rfl⟩
      obtain ⟨z1_7, z2_7⟩ := fx_ref0 hw_7
      subst z1_7
      subst z2_7
      have hP : va_P D vwCl [(nw, .inl (tc 0, 357, .inl row)), (mo, .inr (8, [.int 0, .ref sc, .int ss, .int sp, .int ig, .int lf, .ref rd, .ref nw, .ref tr, .ref di, .int ac, .ref kp, .ref ik]))] H := hP
      have hD : va_D A [(nw, .inl (tc 0, 357, .inl row)), (mo, .inr (8, [.int 0, .ref sc, .int ss, .int sp, .int ig, .int lf, .ref rd, .ref nw, .ref tr, .ref di, .int ac, .ref kp, .ref ik]))] := hD
      refine lv_if_eq (tgt := 40) hx hb dX8_waiting_33 (by decide) (fun c_8 => ?_) (fun c_8 => ?_)
      · refine lv_aload_n hx hb dX8_waiting_40 rfl (lv_at hl 0 rfl) ?_
        refine va_get (D := D) (ci := 8) (v := .ref nw) (C := RX8) (T := TX8) (N := 13) hx hb hts iX8_waiting_X8 hown hK hP 1 rfl rfl 7 (by decide) (hts (.fieldLink RX8 16 "FrameCardModel" "now" "[I") (by decide +kernel)) (fun _ h9 => h9) rfl dX8_waiting_41 ?_
        refine lv_iload_n hx hb dX8_waiting_44 rfl (lv_at hl 1 rfl) ?_
        refine lv_iload_n hx hb dX8_waiting_45 rfl (lv_at hl 2 rfl) ?_
        refine fc_goi (isC := []) (isR := [0, 1]) (wc := []) (wr := [(nw, .inl (tc 0, 357, .inl row)), (mo, .inr (8, [.int 0, .ref sc, .int ss, .int sp, .int ig, .int lf, .ref rd, .ref nw, .ref tr, .ref di, .int ac, .ref kp, .ref ik]))]) hP hD hS hA rfl rfl (by decide) (by decide) (fc_runS (isC := []) (As := [.int p0, .int p1]) (rest := [.ref nw]) hx hb hml hown hts hK hE hP hD hS hA rfl (by decide) (c_X8_waitAt l D tc p0 p1 _ ) (cwS 2 hts gX8_waiting_X8_waitAt rfl rfl rfl hd_X8_waitAt ⟨Nat.le_of_ble_eq_true rfl, Nat.le_of_ble_eq_true rfl⟩) rfl hl.1 rfl (Nat.le_of_ble_eq_true rfl) dX8_waiting_46 ⟨Nat.le_of_ble_eq_true rfl, Nat.le_of_ble_eq_true rfl⟩) (fun r_9 u_9 H locs hw_9 hP hD hS => ?_)
        try dsimp only at hw_9
        have hP : va_P D vwCl [(nw, .inl (tc 0, 357, .inl row)), (mo, .inr (8, [.int 0, .ref sc, .int ss, .int sp, .int ig, .int lf, .ref rd, .ref nw, .ref tr, .ref di, .int ac, .ref kp, .ref ik]))] H := hP
        have hD : va_D A [(nw, .inl (tc 0, 357, .inl row)), (mo, .inr (8, [.int 0, .ref sc, .int ss, .int sp, .int ig, .int lf, .ref rd, .ref nw, .ref tr, .ref di, .int ac, .ref kp, .ref ik]))] := hD
        have hf_9 := fx_waitAt hw_9 (by omega) (by omega)
        refine va_iald (D := D) hx hb hK hP 0 0 rfl rfl (by have l_0 : (0 : Int32).toInt = 0 := (by decide); have l_1 : (1 : Int32).toInt = 1 := (by decide); have l_17 : (17 : Int32).toInt = 17 := (by decide); have l_2 : (2 : Int32).toInt = 2 := (by decide); have l_3 : (3 : Int32).toInt = 3 := (by decide); have l_4 : (4 : Int32).toInt = 4 := (by decide); have qc_2 := c_2; (try simp only [fc_le, fc_lt, fc_eq] at qc_2); have qc_4 := c_4; (try simp only [fc_le, fc_lt, fc_eq] at qc_4); have qhj_1 := hj_1; (try simp only [fc_le, fc_lt, fc_eq] at qhj_1); have qhj_3 := hj_3; (try simp only [fc_le, fc_lt, fc_eq] at qhj_3); rw [vp_in_iff]; omega) dX8_waiting_49 ?_
        exact hret _ _ (row r_9.toNatClampNeg) 0 _ _ (by rw [mX8_waiting]; (try dsimp only); rw [hw_1]; (try dsimp only); rw [if_neg c_2]; rw [hw_3]; (try dsimp only); rw [if_neg c_4]; rw [hw_9]; (try dsimp only); (first | done | rfl)) (hP.sub [1, 0] rfl) (hD.sub [1, 0] (by decide) rfl) hS dX8_waiting_50
      · exact absurd (by decide) c_8
  · refine lv_iconst (v := 1) hx hb dX8_waiting_9 (by decide) ?_
    refine lv_goto (tgt := 30) hx hb dX8_waiting_10 (by decide) ?_
    refine fc_goi (isC := [0]) (isR := [1]) (wc := [(mo, .inr (8, [.int rf, .ref sc, .int ss, .int sp, .int ig, .int lf, .ref rd, .ref nw, .ref tr, .ref di, .int ac, .ref kp, .ref ik]))]) (wr := [(nw, .inl (tc 0, 357, .inl row))]) hP hD hS hA rfl rfl (by decide) (by decide) (fc_runV (isC := [0]) (As := [.int 1]) (rest := []) hx hb hml hown hts hK hE hP hD hS hA rfl (by decide) (c_X8_refused l D tc mo sc rd nw tr di kp ik rf ss sp ig lf ac 1 _ ) (cwV 1 hts gX8_waiting_X8_refused rfl rfl rfl hd_X8_refused ⟨Nat.le_of_ble_eq_true rfl, Nat.le_of_ble_eq_true rfl⟩) (ci := 8) rfl rfl rfl rfl hl.1 rfl (Nat.le_of_ble_eq_true rfl) dX8_waiting_30 ⟨Nat.le_of_ble_eq_true rfl, Nat.le_of_ble_eq_true rfl⟩) (fun r_10 u_10 H locs hw_10 hP hD hS => ?_)
    obtain ⟨rf_10, rfl⟩ : ∃ z, z = u_10 := ⟨_, rfl⟩
    obtain ⟨z1_10, z2_10⟩ := fx_ref1 hw_10
    subst z1_10
    subst z2_10
    have hP : va_P D vwCl [(nw, .inl (tc 0, 357, .inl row)), (mo, .inr (8, [.int 1, .ref sc, .int ss, .int sp, .int ig, .int lf, .ref rd, .ref nw, .ref tr, .ref di, .int ac, .ref kp, .ref ik]))] H := hP
    have hD : va_D A [(nw, .inl (tc 0, 357, .inl row)), (mo, .inr (8, [.int 1, .ref sc, .int ss, .int sp, .int ig, .int lf, .ref rd, .ref nw, .ref tr, .ref di, .int ac, .ref kp, .ref ik]))] := hD
    refine lv_if_eq (tgt := 40) hx hb dX8_waiting_33 (by decide) (fun c_11 => ?_) (fun c_11 => ?_)
    · exact absurd c_11 (by decide)
    · refine lv_iconst (v := 0) hx hb dX8_waiting_36 (by decide) ?_
      refine lv_goto (tgt := 50) hx hb dX8_waiting_37 (by decide) ?_
      exact hret _ _ (0) 1 _ _ (by rw [mX8_waiting]; (try dsimp only); rw [hw_1]; (try dsimp only); rw [if_pos c_2]; (first | done | rfl)) (hP.sub [1, 0] rfl) (hD.sub [1, 0] (by decide) rfl) hS dX8_waiting_50
--# X8_block
noncomputable def mX8_block (rf : Int32) (ss : Int32) (sp : Int32) (ig : Int32) (lf : Int32) (ac : Int32) (row : Nat → Int32) (p0 : Int32) : Int32 × Int32 :=
  let r_1 := mX8_in p0.toInt64 0 ((((row (3 : Int32).toNatClampNeg) - 1) : Int32).toInt64)
  if r_1 = 0 then
    (0, 1)
  else
    ((row ((19 + p0) : Int32).toNatClampNeg), 0)
set_option maxRecDepth 20000 in
theorem iX8_block_X8 : ∀ w ∈ wsX80, w ∈ wsX8_block := by decide +kernel
abbrev rmX8_block : Room := { frames := 1, cells := 0, slots := 0, locals := 25 }
set_option maxHeartbeats 4000000 in
set_option maxRecDepth 100000 in
theorem c_X8_block (l : Launch) (D : va_G) (tc : Nat → ClassId) (mo : Nat) (sc : Nat) (rd : Nat) (nw : Nat) (tr : Nat) (di : Nat) (kp : Nat) (ik : Nat) (rf : Int32) (ss : Int32) (sp : Int32) (ig : Int32) (lf : Int32) (ac : Int32) (row : Nat → Int32) (p0 : Int32) (sz : Nat) (hR : RXn 51 row) : Met l yX8_block wsX8_block rmX8_block (va_Pc [.ref mo, .int p0] (fcB D tc [(mo, .inr (8, [.int rf, .ref sc, .int ss, .int sp, .int ig, .int lf, .ref rd, .ref nw, .ref tr, .ref di, .int ac, .ref kp, .ref ik])), (nw, .inl (tc 0, 357, .inl row))] sz)) (va_Qi (fun (r : Int32) (u : Int32) => mX8_block rf ss sp ig lf ac row p0 = (r, u)) (fun u t => fcO D (va_A [(mo, .inr (8, [.int rf, .ref sc, .int ss, .int sp, .int ig, .int lf, .ref rd, .ref nw, .ref tr, .ref di, .int ac, .ref kp, .ref ik])), (nw, .inl (tc 0, 357, .inl row))] sz) ((fun (u : Int32) => [(mo, .inr (8, [.int u, .ref sc, .int ss, .int sp, .int ig, .int lf, .ref rd, .ref nw, .ref tr, .ref di, .int ac, .ref kp, .ref ik])), (nw, .inl (tc 0, 357, .inl row))]) u) t) (va_A [(mo, .inr (8, [.int rf, .ref sc, .int ss, .int sp, .int ig, .int lf, .ref rd, .ref nw, .ref tr, .ref di, .int ac, .ref kp, .ref ik])), (nw, .inl (tc 0, 357, .inl row))] sz)) 0 0 (va_A [(mo, .inr (8, [.int rf, .ref sc, .int ss, .int sp, .int ig, .int lf, .ref rd, .ref nw, .ref tr, .ref di, .int ac, .ref kp, .ref ik])), (nw, .inl (tc 0, 357, .inl row))] sz) := by
  refine fc_ofWi (own := RX8) (cc := cX8_block) (maxL := 2) (W1 := (fun (u : Int32) => [(mo, .inr (8, [.int u, .ref sc, .int ss, .int sp, .int ig, .int lf, .ref rd, .ref nw, .ref tr, .ref di, .int ac, .ref kp, .ref ik])), (nw, .inl (tc 0, 357, .inl row))])) rfl (by decide) rfl (Nat.le_of_ble_eq_true rfl) ?_
  intro p e s m args below meth c A Q hx hb hml hown hts hK hE hP hD hS hA hin hret ls hl
  have hl : lv_has ls 2 [(0, .ref mo), (1, .int p0)] := hl
  have k3 := (RX_K hR).1
  have k16 := (RX_K hR).2.1
  have k17 := (RX_K hR).2.2
  have k18 := RX_18 hR
  have b3 := fc_subk (x := row (3 : Int32).toNatClampNeg) (k := 1) (n := 1) (by decide) (by omega) (by omega)
  have b16 := fc_subk (x := row (16 : Int32).toNatClampNeg) (k := 1) (n := 1) (by decide) (by omega) (by omega)
  have b17 := fc_subk (x := row (17 : Int32).toNatClampNeg) (k := 1) (n := 1) (by decide) (by omega) (by omega)
  have b18 := fc_subk (x := row (18 : Int32).toNatClampNeg) (k := 1) (n := 1) (by decide) (by omega) (by omega)
  refine lv_aload_n hx hb dX8_block_0 rfl (lv_at hl 0 rfl) ?_
  refine lv_iload_n hx hb dX8_block_1 rfl (lv_at hl 1 rfl) ?_
  refine lv_i2l hx hb dX8_block_2 rfl ?_
  refine lv_lconst (v := 0) hx hb dX8_block_3 (by decide) ?_
  refine lv_aload_n hx hb dX8_block_4 rfl (lv_at hl 0 rfl) ?_
  refine va_get (D := D) (ci := 8) (v := .ref nw) (C := RX8) (T := TX8) (N := 13) hx hb hts iX8_block_X8 hown hK hP 0 rfl rfl 7 (by decide) (hts (.fieldLink RX8 16 "FrameCardModel" "now" "[I") (by decide +kernel)) (fun _ h9 => h9) rfl dX8_block_5 ?_
  refine lv_iconst (v := 3) hx hb dX8_block_8 (by decide) ?_
  refine va_iald (D := D) hx hb hK hP 1 0 rfl rfl (vp_in_iff.mpr (by decide)) dX8_block_9 ?_
  refine lv_iconst (v := 1) hx hb dX8_block_10 (by decide) ?_
  refine lv_isub hx hb dX8_block_11 ?_
  refine lv_i2l hx hb dX8_block_12 rfl ?_
  refine fc_goi (isC := []) (isR := [0, 1]) (wc := []) (wr := [(mo, .inr (8, [.int rf, .ref sc, .int ss, .int sp, .int ig, .int lf, .ref rd, .ref nw, .ref tr, .ref di, .int ac, .ref kp, .ref ik])), (nw, .inl (tc 0, 357, .inl row))]) hP hD hS hA rfl rfl (by decide) (by decide) (fc_runS (isC := []) (As := [.long p0.toInt64, .long 0, .long (((row (3 : Int32).toNatClampNeg) - 1) : Int32).toInt64]) (rest := [.ref mo]) hx hb hml hown hts hK hE hP hD hS hA rfl (by decide) (c_X8_in l D tc p0.toInt64 0 ((((row (3 : Int32).toNatClampNeg) - 1) : Int32).toInt64) _ ) (cwS 3 hts gX8_block_X8_in rfl rfl rfl hd_X8_in ⟨Nat.le_of_ble_eq_true rfl, Nat.le_of_ble_eq_true rfl⟩) rfl hl.1 rfl (Nat.le_of_ble_eq_true rfl) dX8_block_13 ⟨Nat.le_of_ble_eq_true rfl, Nat.le_of_ble_eq_true rfl⟩) (fun r_1 u_1 H locs hw_1 hP hD hS => ?_)
  try dsimp only at hw_1
  have hP : va_P D vwCl [(mo, .inr (8, [.int rf, .ref sc, .int ss, .int sp, .int ig, .int lf, .ref rd, .ref nw, .ref tr, .ref di, .int ac, .ref kp, .ref ik])), (nw, .inl (tc 0, 357, .inl row))] H := hP
  have hD : va_D A [(mo, .inr (8, [.int rf, .ref sc, .int ss, .int sp, .int ig, .int lf, .ref rd, .ref nw, .ref tr, .ref di, .int ac, .ref kp, .ref ik])), (nw, .inl (tc 0, 357, .inl row))] := hD
  have hi_1 := fx_in3 hw_1 (A := p0.toInt) (B := 0) (C := ((row (3 : Int32).toNatClampNeg) - 1).toInt) (Int32.toInt_toInt64 _) (by decide) (Int32.toInt_toInt64 _)
  refine lv_if_eq (tgt := 23) hx hb dX8_block_16 (by decide) (fun c_2 => ?_) (fun c_2 => ?_)
  · refine lv_iconst (v := 1) hx hb dX8_block_23 (by decide) ?_
    refine fc_goi (isC := [0]) (isR := [1]) (wc := [(mo, .inr (8, [.int rf, .ref sc, .int ss, .int sp, .int ig, .int lf, .ref rd, .ref nw, .ref tr, .ref di, .int ac, .ref kp, .ref ik]))]) (wr := [(nw, .inl (tc 0, 357, .inl row))]) hP hD hS hA rfl rfl (by decide) (by decide) (fc_runV (isC := [0]) (As := [.int 1]) (rest := []) hx hb hml hown hts hK hE hP hD hS hA rfl (by decide) (c_X8_refused l D tc mo sc rd nw tr di kp ik rf ss sp ig lf ac 1 _ ) (cwV 1 hts gX8_block_X8_refused rfl rfl rfl hd_X8_refused ⟨Nat.le_of_ble_eq_true rfl, Nat.le_of_ble_eq_true rfl⟩) (ci := 8) rfl rfl rfl rfl hl.1 rfl (Nat.le_of_ble_eq_true rfl) dX8_block_24 ⟨Nat.le_of_ble_eq_true rfl, Nat.le_of_ble_eq_true rfl⟩) (fun r_3 u_3 H locs hw_3 hP hD hS => ?_)
    obtain ⟨rf_3, rfl⟩ : ∃ z, z = u_3 := ⟨_, rfl⟩
    obtain ⟨z1_3, z2_3⟩ := fx_ref1 hw_3
    subst z1_3
    subst z2_3
    have hP : va_P D vwCl [(nw, .inl (tc 0, 357, .inl row)), (mo, .inr (8, [.int 1, .ref sc, .int ss, .int sp, .int ig, .int lf, .ref rd, .ref nw, .ref tr, .ref di, .int ac, .ref kp, .ref ik]))] H := hP
    have hD : va_D A [(nw, .inl (tc 0, 357, .inl row)), (mo, .inr (8, [.int 1, .ref sc, .int ss, .int sp, .int ig, .int lf, .ref rd, .ref nw, .ref tr, .ref di, .int ac, .ref kp, .ref ik]))] := hD
    refine lv_if_eq (tgt := 34) hx hb dX8_block_27 (by decide) (fun c_4 => ?_) (fun c_4 => ?_)
    · exact absurd c_4 (by decide)
    · refine lv_iconst (v := 0) hx hb dX8_block_30 (by decide) ?_
      refine lv_goto (tgt := 43) hx hb dX8_block_31 (by decide) ?_
      exact hret _ _ (0) 1 _ _ (by rw [mX8_block]; (try dsimp only); rw [hw_1]; (try dsimp only); rw [if_pos c_2]; (first | done | rfl)) (hP.sub [1, 0] rfl) (hD.sub [1, 0] (by decide) rfl) hS dX8_block_43
  · have hj_1 := hi_1.resolve_left c_2
    refine lv_iconst (v := 0) hx hb dX8_block_19 (by decide) ?_
    refine lv_goto (tgt := 24) hx hb dX8_block_20 (by decide) ?_
    refine fc_goi (isC := [0]) (isR := [1]) (wc := [(mo, .inr (8, [.int rf, .ref sc, .int ss, .int sp, .int ig, .int lf, .ref rd, .ref nw, .ref tr, .ref di, .int ac, .ref kp, .ref ik]))]) (wr := [(nw, .inl (tc 0, 357, .inl row))]) hP hD hS hA rfl rfl (by decide) (by decide) (fc_runV (isC := [0]) (As := [.int 0]) (rest := []) hx hb hml hown hts hK hE hP hD hS hA rfl (by decide) (c_X8_refused l D tc mo sc rd nw tr di kp ik rf ss sp ig lf ac 0 _ ) (cwV 1 hts gX8_block_X8_refused rfl rfl rfl hd_X8_refused ⟨Nat.le_of_ble_eq_true rfl, Nat.le_of_ble_eq_true rfl⟩) (ci := 8) rfl rfl rfl rfl hl.1 rfl (Nat.le_of_ble_eq_true rfl) dX8_block_24 ⟨Nat.le_of_ble_eq_true rfl, Nat.le_of_ble_eq_true rfl⟩) (fun r_5 u_5 H locs hw_5 hP hD hS => ?_)
    obtain ⟨rf_5, rfl⟩ : ∃ z, z = u_5 := ⟨_, rfl⟩
    obtain ⟨z1_5, z2_5⟩ := fx_ref0 hw_5
    subst z1_5
    subst z2_5
    have hP : va_P D vwCl [(nw, .inl (tc 0, 357, .inl row)), (mo, .inr (8, [.int 0, .ref sc, .int ss, .int sp, .int ig, .int lf, .ref rd, .ref nw, .ref tr, .ref di, .int ac, .ref kp, .ref ik]))] H := hP
    have hD : va_D A [(nw, .inl (tc 0, 357, .inl row)), (mo, .inr (8, [.int 0, .ref sc, .int ss, .int sp, .int ig, .int lf, .ref rd, .ref nw, .ref tr, .ref di, .int ac, .ref kp, .ref ik]))] := hD
    refine lv_if_eq (tgt := 34) hx hb dX8_block_27 (by decide) (fun c_6 => ?_) (fun c_6 => ?_)
    · refine lv_aload_n hx hb dX8_block_34 rfl (lv_at hl 0 rfl) ?_
      refine va_get (D := D) (ci := 8) (v := .ref nw) (C := RX8) (T := TX8) (N := 13) hx hb hts iX8_block_X8 hown hK hP 1 rfl rfl 7 (by decide) (hts (.fieldLink RX8 16 "FrameCardModel" "now" "[I") (by decide +kernel)) (fun _ h9 => h9) rfl dX8_block_35 ?_
      refine lv_bipush (v := 19) hx hb dX8_block_38 (by decide) ?_
      refine lv_iload_n hx hb dX8_block_40 rfl (lv_at hl 1 rfl) ?_
      refine lv_iadd hx hb dX8_block_41 ?_
      refine va_iald (D := D) hx hb hK hP 0 0 rfl rfl (by have l_0 : (0 : Int32).toInt = 0 := (by decide); have l_1 : (1 : Int32).toInt = 1 := (by decide); have l_19 : (19 : Int32).toInt = 19 := (by decide); have l_2 : (2 : Int32).toInt = 2 := (by decide); have l_3 : (3 : Int32).toInt = 3 := (by decide); have l_4 : (4 : Int32).toInt = 4 := (by decide); have qc_2 := c_2; (try simp only [fc_le, fc_lt, fc_eq] at qc_2); have a_1 := fc_kadd (x := p0) (k := 19) (n := 19) (by decide) (by omega) (by omega); have qhj_1 := hj_1; (try simp only [fc_le, fc_lt, fc_eq] at qhj_1); rw [vp_in_iff]; omega) dX8_block_42 ?_
      exact hret _ _ (row ((19 + p0) : Int32).toNatClampNeg) 0 _ _ (by rw [mX8_block]; (try dsimp only); rw [hw_1]; (try dsimp only); rw [if_neg c_2]; (first | done | rfl)) (hP.sub [1, 0] rfl) (hD.sub [1, 0] (by decide) rfl) hS dX8_block_43
    · exact absurd (by decide) c_6
--# X8_broken
noncomputable def mX8_broken (rf : Int32) (ss : Int32) (sp : Int32) (ig : Int32) (lf : Int32) (ac : Int32) (row : Nat → Int32) (p0 : Int32) (p1 : Int32) : Int32 × Int32 :=
  let r_1 := mX8_in p0.toInt64 0 ((((row (18 : Int32).toNatClampNeg) - 1) : Int32).toInt64)
  if r_1 = 0 then
    (0, 1)
  else
    let r_3 := mX8_in p1.toInt64 0 2
    if r_3 = 0 then
      (0, 2)
    else
      ((row (((327 + (3 * p0)) + p1) : Int32).toNatClampNeg), 0)
set_option maxRecDepth 20000 in
theorem iX8_broken_X8 : ∀ w ∈ wsX80, w ∈ wsX8_broken := by decide +kernel
abbrev rmX8_broken : Room := { frames := 1, cells := 0, slots := 0, locals := 25 }
set_option maxHeartbeats 4000000 in
set_option maxRecDepth 100000 in
theorem c_X8_broken (l : Launch) (D : va_G) (tc : Nat → ClassId) (mo : Nat) (sc : Nat) (rd : Nat) (nw : Nat) (tr : Nat) (di : Nat) (kp : Nat) (ik : Nat) (rf : Int32) (ss : Int32) (sp : Int32) (ig : Int32) (lf : Int32) (ac : Int32) (row : Nat → Int32) (p0 : Int32) (p1 : Int32) (sz : Nat) (hR : RXn 51 row) : Met l yX8_broken wsX8_broken rmX8_broken (va_Pc [.ref mo, .int p0, .int p1] (fcB D tc [(mo, .inr (8, [.int rf, .ref sc, .int ss, .int sp, .int ig, .int lf, .ref rd, .ref nw, .ref tr, .ref di, .int ac, .ref kp, .ref ik])), (nw, .inl (tc 0, 357, .inl row))] sz)) (va_Qi (fun (r : Int32) (u : Int32) => mX8_broken rf ss sp ig lf ac row p0 p1 = (r, u)) (fun u t => fcO D (va_A [(mo, .inr (8, [.int rf, .ref sc, .int ss, .int sp, .int ig, .int lf, .ref rd, .ref nw, .ref tr, .ref di, .int ac, .ref kp, .ref ik])), (nw, .inl (tc 0, 357, .inl row))] sz) ((fun (u : Int32) => [(mo, .inr (8, [.int u, .ref sc, .int ss, .int sp, .int ig, .int lf, .ref rd, .ref nw, .ref tr, .ref di, .int ac, .ref kp, .ref ik])), (nw, .inl (tc 0, 357, .inl row))]) u) t) (va_A [(mo, .inr (8, [.int rf, .ref sc, .int ss, .int sp, .int ig, .int lf, .ref rd, .ref nw, .ref tr, .ref di, .int ac, .ref kp, .ref ik])), (nw, .inl (tc 0, 357, .inl row))] sz)) 0 0 (va_A [(mo, .inr (8, [.int rf, .ref sc, .int ss, .int sp, .int ig, .int lf, .ref rd, .ref nw, .ref tr, .ref di, .int ac, .ref kp, .ref ik])), (nw, .inl (tc 0, 357, .inl row))] sz) := by
  refine fc_ofWi (own := RX8) (cc := cX8_broken) (maxL := 3) (W1 := (fun (u : Int32) => [(mo, .inr (8, [.int u, .ref sc, .int ss, .int sp, .int ig, .int lf, .ref rd, .ref nw, .ref tr, .ref di, .int ac, .ref kp, .ref ik])), (nw, .inl (tc 0, 357, .inl row))])) rfl (by decide) rfl (Nat.le_of_ble_eq_true rfl) ?_
  intro p e s m args below meth c A Q hx hb hml hown hts hK hE hP hD hS hA hin hret ls hl
  have hl : lv_has ls 3 [(0, .ref mo), (1, .int p0), (2, .int p1)] := hl
  have k3 := (RX_K hR).1
  have k16 := (RX_K hR).2.1
  have k17 := (RX_K hR).2.2
  have k18 := RX_18 hR
  have b3 := fc_subk (x := row (3 : Int32).toNatClampNeg) (k := 1) (n := 1) (by decide) (by omega) (by omega)
  have b16 := fc_subk (x := row (16 : Int32).toNatClampNeg) (k := 1) (n := 1) (by decide) (by omega) (by omega)
  have b17 := fc_subk (x := row (17 : Int32).toNatClampNeg) (k := 1) (n := 1) (by decide) (by omega) (by omega)
  have b18 := fc_subk (x := row (18 : Int32).toNatClampNeg) (k := 1) (n := 1) (by decide) (by omega) (by omega)
  refine lv_aload_n hx hb dX8_broken_0 rfl (lv_at hl 0 rfl) ?_
  refine lv_iload_n hx hb dX8_broken_1 rfl (lv_at hl 1 rfl) ?_
  refine lv_i2l hx hb dX8_broken_2 rfl ?_
  refine lv_lconst (v := 0) hx hb dX8_broken_3 (by decide) ?_
  refine lv_aload_n hx hb dX8_broken_4 rfl (lv_at hl 0 rfl) ?_
  refine va_get (D := D) (ci := 8) (v := .ref nw) (C := RX8) (T := TX8) (N := 13) hx hb hts iX8_broken_X8 hown hK hP 0 rfl rfl 7 (by decide) (hts (.fieldLink RX8 16 "FrameCardModel" "now" "[I") (by decide +kernel)) (fun _ h9 => h9) rfl dX8_broken_5 ?_
  refine lv_bipush (v := 18) hx hb dX8_broken_8 (by decide) ?_
  refine va_iald (D := D) hx hb hK hP 1 0 rfl rfl (vp_in_iff.mpr (by decide)) dX8_broken_10 ?_
  refine lv_iconst (v := 1) hx hb dX8_broken_11 (by decide) ?_
  refine lv_isub hx hb dX8_broken_12 ?_
  refine lv_i2l hx hb dX8_broken_13 rfl ?_
  refine fc_goi (isC := []) (isR := [0, 1]) (wc := []) (wr := [(mo, .inr (8, [.int rf, .ref sc, .int ss, .int sp, .int ig, .int lf, .ref rd, .ref nw, .ref tr, .ref di, .int ac, .ref kp, .ref ik])), (nw, .inl (tc 0, 357, .inl row))]) hP hD hS hA rfl rfl (by decide) (by decide) (fc_runS (isC := []) (As := [.long p0.toInt64, .long 0, .long (((row (18 : Int32).toNatClampNeg) - 1) : Int32).toInt64]) (rest := [.ref mo]) hx hb hml hown hts hK hE hP hD hS hA rfl (by decide) (c_X8_in l D tc p0.toInt64 0 ((((row (18 : Int32).toNatClampNeg) - 1) : Int32).toInt64) _ ) (cwS 3 hts gX8_broken_X8_in rfl rfl rfl hd_X8_in ⟨Nat.le_of_ble_eq_true rfl, Nat.le_of_ble_eq_true rfl⟩) rfl hl.1 rfl (Nat.le_of_ble_eq_true rfl) dX8_broken_14 ⟨Nat.le_of_ble_eq_true rfl, Nat.le_of_ble_eq_true rfl⟩) (fun r_1 u_1 H locs hw_1 hP hD hS => ?_)
  try dsimp only at hw_1
  have hP : va_P D vwCl [(mo, .inr (8, [.int rf, .ref sc, .int ss, .int sp, .int ig, .int lf, .ref rd, .ref nw, .ref tr, .ref di, .int ac, .ref kp, .ref ik])), (nw, .inl (tc 0, 357, .inl row))] H := hP
  have hD : va_D A [(mo, .inr (8, [.int rf, .ref sc, .int ss, .int sp, .int ig, .int lf, .ref rd, .ref nw, .ref tr, .ref di, .int ac, .ref kp, .ref ik])), (nw, .inl (tc 0, 357, .inl row))] := hD
  have hi_1 := fx_in3 hw_1 (A := p0.toInt) (B := 0) (C := ((row (18 : Int32).toNatClampNeg) - 1).toInt) (Int32.toInt_toInt64 _) (by decide) (Int32.toInt_toInt64 _)
  refine lv_if_ne (tgt := 24) hx hb dX8_broken_17 (by decide) (fun c_2 => ?_) (fun c_2 => ?_)
  · have hj_1 := hi_1.resolve_left c_2
    refine lv_iload_n hx hb dX8_broken_24 rfl (lv_at hl 2 rfl) ?_
    refine lv_i2l hx hb dX8_broken_25 rfl ?_
    refine lv_lconst (v := 0) hx hb dX8_broken_26 (by decide) ?_
    refine lv_ldc2 (v := 2) hx hb hown (hts (.constantLong RX8 166 2) (by decide +kernel)) dX8_broken_27 ?_
    refine fc_goi (isC := []) (isR := [0, 1]) (wc := []) (wr := [(mo, .inr (8, [.int rf, .ref sc, .int ss, .int sp, .int ig, .int lf, .ref rd, .ref nw, .ref tr, .ref di, .int ac, .ref kp, .ref ik])), (nw, .inl (tc 0, 357, .inl row))]) hP hD hS hA rfl rfl (by decide) (by decide) (fc_runS (isC := []) (As := [.long p1.toInt64, .long 0, .long 2]) (rest := [.ref mo]) hx hb hml hown hts hK hE hP hD hS hA rfl (by decide) (c_X8_in l D tc p1.toInt64 0 2 _ ) (cwS 3 hts gX8_broken_X8_in rfl rfl rfl hd_X8_in ⟨Nat.le_of_ble_eq_true rfl, Nat.le_of_ble_eq_true rfl⟩) rfl hl.1 rfl (Nat.le_of_ble_eq_true rfl) dX8_broken_30 ⟨Nat.le_of_ble_eq_true rfl, Nat.le_of_ble_eq_true rfl⟩) (fun r_3 u_3 H locs hw_3 hP hD hS => ?_)
    try dsimp only at hw_3
    have hP : va_P D vwCl [(mo, .inr (8, [.int rf, .ref sc, .int ss, .int sp, .int ig, .int lf, .ref rd, .ref nw, .ref tr, .ref di, .int ac, .ref kp, .ref ik])), (nw, .inl (tc 0, 357, .inl row))] H := hP
    have hD : va_D A [(mo, .inr (8, [.int rf, .ref sc, .int ss, .int sp, .int ig, .int lf, .ref rd, .ref nw, .ref tr, .ref di, .int ac, .ref kp, .ref ik])), (nw, .inl (tc 0, 357, .inl row))] := hD
    have hi_3 := fx_in3 hw_3 (A := p1.toInt) (B := 0) (C := 2) (Int32.toInt_toInt64 _) (by decide) (by decide)
    refine lv_if_eq (tgt := 40) hx hb dX8_broken_33 (by decide) (fun c_4 => ?_) (fun c_4 => ?_)
    · refine lv_iconst (v := 2) hx hb dX8_broken_40 (by decide) ?_
      refine fc_goi (isC := [0]) (isR := [1]) (wc := [(mo, .inr (8, [.int rf, .ref sc, .int ss, .int sp, .int ig, .int lf, .ref rd, .ref nw, .ref tr, .ref di, .int ac, .ref kp, .ref ik]))]) (wr := [(nw, .inl (tc 0, 357, .inl row))]) hP hD hS hA rfl rfl (by decide) (by decide) (fc_runV (isC := [0]) (As := [.int 2]) (rest := []) hx hb hml hown hts hK hE hP hD hS hA rfl (by decide) (c_X8_refused l D tc mo sc rd nw tr di kp ik rf ss sp ig lf ac 2 _ ) (cwV 1 hts gX8_broken_X8_refused rfl rfl rfl hd_X8_refused ⟨Nat.le_of_ble_eq_true rfl, Nat.le_of_ble_eq_true rfl⟩) (ci := 8) rfl rfl rfl rfl hl.1 rfl (Nat.le_of_ble_eq_true rfl) dX8_broken_41 ⟨Nat.le_of_ble_eq_true rfl, Nat.le_of_ble_eq_true rfl⟩) (fun r_5 u_5 H locs hw_5 hP hD hS => ?_)
      obtain ⟨rf_5, rfl⟩ : ∃ z, z = u_5 := ⟨_, rfl⟩
      obtain ⟨z1_5, z2_5⟩ := fx_ref2 hw_5
      subst z1_5
      subst z2_5
      have hP : va_P D vwCl [(nw, .inl (tc 0, 357, .inl row)), (mo, .inr (8, [.int 2, .ref sc, .int ss, .int sp, .int ig, .int lf, .ref rd, .ref nw, .ref tr, .ref di, .int ac, .ref kp, .ref ik]))] H := hP
      have hD : va_D A [(nw, .inl (tc 0, 357, .inl row)), (mo, .inr (8, [.int 2, .ref sc, .int ss, .int sp, .int ig, .int lf, .ref rd, .ref nw, .ref tr, .ref di, .int ac, .ref kp, .ref ik]))] := hD
      refine lv_if_eq (tgt := 51) hx hb dX8_broken_44 (by decide) (fun c_6 => ?_) (fun c_6 => ?_)
      · exact absurd c_6 (by decide)
      · refine lv_iconst (v := 0) hx hb dX8_broken_47 (by decide) ?_
        refine lv_goto (tgt := 65) hx hb dX8_broken_48 (by decide) ?_
        exact hret _ _ (0) 2 _ _ (by rw [mX8_broken]; (try dsimp only); rw [hw_1]; (try dsimp only); rw [if_neg c_2]; rw [hw_3]; (try dsimp only); rw [if_pos c_4]; (first | done | rfl)) (hP.sub [1, 0] rfl) (hD.sub [1, 0] (by decide) rfl) hS dX8_broken_65
    · have hj_3 := hi_3.resolve_left c_4
      refine lv_iconst (v := 0) hx hb dX8_broken_36 (by decide) ?_
      refine lv_goto (tgt := 41) hx hb dX8_broken_37 (by decide) ?_
      refine fc_goi (isC := [0]) (isR := [1]) (wc := [(mo, .inr (8, [.int rf, .ref sc, .int ss, .int sp, .int ig, .int lf, .ref rd, .ref nw, .ref tr, .ref di, .int ac, .ref kp, .ref ik]))]) (wr := [(nw, .inl (tc 0, 357, .inl row))]) hP hD hS hA rfl rfl (by decide) (by decide) (fc_runV (isC := [0]) (As := [.int 0]) (rest := []) hx hb hml hown hts hK hE hP hD hS hA rfl (by decide) (c_X8_refused l D tc mo sc rd nw tr di kp ik rf ss sp ig lf ac 0 _ ) (cwV 1 hts gX8_broken_X8_refused rfl rfl rfl hd_X8_refused ⟨Nat.le_of_ble_eq_true rfl, Nat.le_of_ble_eq_true rfl⟩) (ci := 8) rfl rfl rfl rfl hl.1 rfl (Nat.le_of_ble_eq_true rfl) dX8_broken_41 ⟨Nat.le_of_ble_eq_true rfl, Nat.le_of_ble_eq_true rfl⟩) (fun r_7 u_7 H locs hw_7 hP hD hS => ?_)
      obtain ⟨rf_7, rfl⟩ : ∃ z, z = u_7 := ⟨_, rfl⟩
      obtain ⟨z1_7, z2_7⟩ := fx_ref0 hw_7
      subst z1_7
      subst z2_7
      have hP : va_P D vwCl [(nw, .inl (tc 0, 357, .inl row)), (mo, .inr (8, [.int 0, .ref sc, .int ss, .int sp, .int ig, .int lf, .ref rd, .ref nw, .ref tr, .ref di, .int ac, .ref kp, .ref ik]))] H := hP
      have hD : va_D A [(nw, .inl (tc 0, 357, .inl row)), (mo, .inr (8, [.int 0, .ref sc, .int ss, .int sp, .int ig, .int lf, .ref rd, .ref nw, .ref tr, .ref di, .int ac, .ref kp, .ref ik]))] := hD
      refine lv_if_eq (tgt := 51) hx hb dX8_broken_44 (by decide) (fun c_8 => ?_) (fun c_8 => ?_)
      · refine lv_aload_n hx hb dX8_broken_51 rfl (lv_at hl 0 rfl) ?_
        refine va_get (D := D) (ci := 8) (v := .ref nw) (C := RX8) (T := TX8) (N := 13) hx hb hts iX8_broken_X8 hown hK hP 1 rfl rfl 7 (by decide) (hts (.fieldLink RX8 16 "FrameCardModel" "now" "[I") (by decide +kernel)) (fun _ h9 => h9) rfl dX8_broken_52 ?_
        refine lv_sipush (v := 327) hx hb dX8_broken_55 (by decide) ?_
        refine lv_iconst (v := 3) hx hb dX8_broken_58 (by decide) ?_
        refine lv_iload_n hx hb dX8_broken_59 rfl (lv_at hl 1 rfl) ?_
        refine lv_imul hx hb dX8_broken_60 ?_
        refine lv_iadd hx hb dX8_broken_61 ?_
        refine lv_iload_n hx hb dX8_broken_62 rfl (lv_at hl 2 rfl) ?_
        refine lv_iadd hx hb dX8_broken_63 ?_
        refine va_iald (D := D) hx hb hK hP 0 0 rfl rfl (by have l_0 : (0 : Int32).toInt = 0 := (by decide); have l_1 : (1 : Int32).toInt = 1 := (by decide); have l_18 : (18 : Int32).toInt = 18 := (by decide); have l_2 : (2 : Int32).toInt = 2 := (by decide); have l_3 : (3 : Int32).toInt = 3 := (by decide); have l_327 : (327 : Int32).toInt = 327 := (by decide); have l_4 : (4 : Int32).toInt = 4 := (by decide); have qc_2 := c_2; (try simp only [fc_le, fc_lt, fc_eq] at qc_2); have qc_4 := c_4; (try simp only [fc_le, fc_lt, fc_eq] at qc_4); have a_3 := fc_kmul (x := p0) (k := 3) (n := 3) (by decide) (by omega) (by omega); have a_3 := fc_kadd (x := (3 * p0)) (k := 327) (n := 327) (by decide) (by omega) (by omega); have a_3 := fc_add (x := (327 + (3 * p0))) (y := p1) (by omega) (by omega); have qhj_1 := hj_1; (try simp only [fc_le, fc_lt, fc_eq] at qhj_1); have qhj_3 := hj_3; (try simp only [fc_le, fc_lt, fc_eq] at qhj_3); rw [vp_in_iff]; omega) dX8_broken_64 ?_
        exact hret _ _ (row (((327 + (3 * p0)) + p1) : Int32).toNatClampNeg) 0 _ _ (by rw [mX8_broken]; (try dsimp only); rw [hw_1]; (try dsimp only); rw [if_neg c_2]; rw [hw_3]; (try dsimp only); rw [if_neg c_4]; (first | done | rfl)) (hP.sub [1, 0] rfl) (hD.sub [1, 0] (by decide) rfl) hS dX8_broken_65
      · exact absurd (by decide) c_8
  · refine lv_iconst (v := 1) hx hb dX8_broken_20 (by decide) ?_
    refine lv_goto (tgt := 41) hx hb dX8_broken_21 (by decide) ?_
    refine fc_goi (isC := [0]) (isR := [1]) (wc := [(mo, .inr (8, [.int rf, .ref sc, .int ss, .int sp, .int ig, .int lf, .ref rd, .ref nw, .ref tr, .ref di, .int ac, .ref kp, .ref ik]))]) (wr := [(nw, .inl (tc 0, 357, .inl row))]) hP hD hS hA rfl rfl (by decide) (by decide) (fc_runV (isC := [0]) (As := [.int 1]) (rest := []) hx hb hml hown hts hK hE hP hD hS hA rfl (by decide) (c_X8_refused l D tc mo sc rd nw tr di kp ik rf ss sp ig lf ac 1 _ ) (cwV 1 hts gX8_broken_X8_refused rfl rfl rfl hd_X8_refused ⟨Nat.le_of_ble_eq_true rfl, Nat.le_of_ble_eq_true rfl⟩) (ci := 8) rfl rfl rfl rfl hl.1 rfl (Nat.le_of_ble_eq_true rfl) dX8_broken_41 ⟨Nat.le_of_ble_eq_true rfl, Nat.le_of_ble_eq_true rfl⟩) (fun r_9 u_9 H locs hw_9 hP hD hS => ?_)
    obtain ⟨rf_9, rfl⟩ : ∃ z, z = u_9 := ⟨_, rfl⟩
    obtain ⟨z1_9, z2_9⟩ := fx_ref1 hw_9
    subst z1_9
    subst z2_9
    have hP : va_P D vwCl [(nw, .inl (tc 0, 357, .inl row)), (mo, .inr (8, [.int 1, .ref sc, .int ss, .int sp, .int ig, .int lf, .ref rd, .ref nw, .ref tr, .ref di, .int ac, .ref kp, .ref ik]))] H := hP
    have hD : va_D A [(nw, .inl (tc 0, 357, .inl row)), (mo, .inr (8, [.int 1, .ref sc, .int ss, .int sp, .int ig, .int lf, .ref rd, .ref nw, .ref tr, .ref di, .int ac, .ref kp, .ref ik]))] := hD
    refine lv_if_eq (tgt := 51) hx hb dX8_broken_44 (by decide) (fun c_10 => ?_) (fun c_10 => ?_)
    · exact absurd c_10 (by decide)
    · refine lv_iconst (v := 0) hx hb dX8_broken_47 (by decide) ?_
      refine lv_goto (tgt := 65) hx hb dX8_broken_48 (by decide) ?_
      exact hret _ _ (0) 1 _ _ (by rw [mX8_broken]; (try dsimp only); rw [hw_1]; (try dsimp only); rw [if_pos c_2]; (first | done | rfl)) (hP.sub [1, 0] rfl) (hD.sub [1, 0] (by decide) rfl) hS dX8_broken_65
--# X8_setting
noncomputable def mX8_setting (rf : Int32) (ss : Int32) (sp : Int32) (ig : Int32) (lf : Int32) (ac : Int32) (row : Nat → Int32) (p0 : Int32) : Int32 × Int32 :=
  let r_1 := mX8_in p0.toInt64 0 2
  if r_1 = 0 then
    (0, 1)
  else
    ((row p0.toNatClampNeg), 0)
set_option maxRecDepth 20000 in
theorem iX8_setting_X8 : ∀ w ∈ wsX80, w ∈ wsX8_setting := by decide +kernel
abbrev rmX8_setting : Room := { frames := 1, cells := 0, slots := 0, locals := 25 }
set_option maxHeartbeats 4000000 in
set_option maxRecDepth 100000 in
theorem c_X8_setting (l : Launch) (D : va_G) (tc : Nat → ClassId) (mo : Nat) (sc : Nat) (rd : Nat) (nw : Nat) (tr : Nat) (di : Nat) (kp : Nat) (ik : Nat) (rf : Int32) (ss : Int32) (sp : Int32) (ig : Int32) (lf : Int32) (ac : Int32) (row : Nat → Int32) (p0 : Int32) (sz : Nat) : Met l yX8_setting wsX8_setting rmX8_setting (va_Pc [.ref mo, .int p0] (fcB D tc [(mo, .inr (8, [.int rf, .ref sc, .int ss, .int sp, .int ig, .int lf, .ref rd, .ref nw, .ref tr, .ref di, .int ac, .ref kp, .ref ik])), (nw, .inl (tc 0, 357, .inl row))] sz)) (va_Qi (fun (r : Int32) (u : Int32) => mX8_setting rf ss sp ig lf ac row p0 = (r, u)) (fun u t => fcO D (va_A [(mo, .inr (8, [.int rf, .ref sc, .int ss, .int sp, .int ig, .int lf, .ref rd, .ref nw, .ref tr, .ref di, .int ac, .ref kp, .ref ik])), (nw, .inl (tc 0, 357, .inl row))] sz) ((fun (u : Int32) => [(mo, .inr (8, [.int u, .ref sc, .int ss, .int sp, .int ig, .int lf, .ref rd, .ref nw, .ref tr, .ref di, .int ac, .ref kp, .ref ik])), (nw, .inl (tc 0, 357, .inl row))]) u) t) (va_A [(mo, .inr (8, [.int rf, .ref sc, .int ss, .int sp, .int ig, .int lf, .ref rd, .ref nw, .ref tr, .ref di, .int ac, .ref kp, .ref ik])), (nw, .inl (tc 0, 357, .inl row))] sz)) 0 0 (va_A [(mo, .inr (8, [.int rf, .ref sc, .int ss, .int sp, .int ig, .int lf, .ref rd, .ref nw, .ref tr, .ref di, .int ac, .ref kp, .ref ik])), (nw, .inl (tc 0, 357, .inl row))] sz) := by
  refine fc_ofWi (own := RX8) (cc := cX8_setting) (maxL := 2) (W1 := (fun (u : Int32) => [(mo, .inr (8, [.int u, .ref sc, .int ss, .int sp, .int ig, .int lf, .ref rd, .ref nw, .ref tr, .ref di, .int ac, .ref kp, .ref ik])), (nw, .inl (tc 0, 357, .inl row))])) rfl (by decide) rfl (Nat.le_of_ble_eq_true rfl) ?_
  intro p e s m args below meth c A Q hx hb hml hown hts hK hE hP hD hS hA hin hret ls hl
  have hl : lv_has ls 2 [(0, .ref mo), (1, .int p0)] := hl
  refine lv_aload_n hx hb dX8_setting_0 rfl (lv_at hl 0 rfl) ?_
  refine lv_iload_n hx hb dX8_setting_1 rfl (lv_at hl 1 rfl) ?_
  refine lv_i2l hx hb dX8_setting_2 rfl ?_
  refine lv_lconst (v := 0) hx hb dX8_setting_3 (by decide) ?_
  refine lv_ldc2 (v := 2) hx hb hown (hts (.constantLong RX8 166 2) (by decide +kernel)) dX8_setting_4 ?_
  refine fc_goi (isC := []) (isR := [0, 1]) (wc := []) (wr := [(mo, .inr (8, [.int rf, .ref sc, .int ss, .int sp, .int ig, .int lf, .ref rd, .ref nw, .ref tr, .ref di, .int ac, .ref kp, .ref ik])), (nw, .inl (tc 0, 357, .inl row))]) hP hD hS hA rfl rfl (by decide) (by decide) (fc_runS (isC := []) (As := [.long p0.toInt64, .long 0, .long 2]) (rest := [.ref mo]) hx hb hml hown hts hK hE hP hD hS hA rfl (by decide) (c_X8_in l D tc p0.toInt64 0 2 _ ) (cwS 3 hts gX8_setting_X8_in rfl rfl rfl hd_X8_in ⟨Nat.le_of_ble_eq_true rfl, Nat.le_of_ble_eq_true rfl⟩) rfl hl.1 rfl (Nat.le_of_ble_eq_true rfl) dX8_setting_7 ⟨Nat.le_of_ble_eq_true rfl, Nat.le_of_ble_eq_true rfl⟩) (fun r_1 u_1 H locs hw_1 hP hD hS => ?_)
  try dsimp only at hw_1
  have hP : va_P D vwCl [(mo, .inr (8, [.int rf, .ref sc, .int ss, .int sp, .int ig, .int lf, .ref rd, .ref nw, .ref tr, .ref di, .int ac, .ref kp, .ref ik])), (nw, .inl (tc 0, 357, .inl row))] H := hP
  have hD : va_D A [(mo, .inr (8, [.int rf, .ref sc, .int ss, .int sp, .int ig, .int lf, .ref rd, .ref nw, .ref tr, .ref di, .int ac, .ref kp, .ref ik])), (nw, .inl (tc 0, 357, .inl row))] := hD
  have hi_1 := fx_in3 hw_1 (A := p0.toInt) (B := 0) (C := 2) (Int32.toInt_toInt64 _) (by decide) (by decide)
  refine lv_if_eq (tgt := 17) hx hb dX8_setting_10 (by decide) (fun c_2 => ?_) (fun c_2 => ?_)
  · refine lv_iconst (v := 1) hx hb dX8_setting_17 (by decide) ?_
    refine fc_goi (isC := [0]) (isR := [1]) (wc := [(mo, .inr (8, [.int rf, .ref sc, .int ss, .int sp, .int ig, .int lf, .ref rd, .ref nw, .ref tr, .ref di, .int ac, .ref kp, .ref ik]))]) (wr := [(nw, .inl (tc 0, 357, .inl row))]) hP hD hS hA rfl rfl (by decide) (by decide) (fc_runV (isC := [0]) (As := [.int 1]) (rest := []) hx hb hml hown hts hK hE hP hD hS hA rfl (by decide) (c_X8_refused l D tc mo sc rd nw tr di kp ik rf ss sp ig lf ac 1 _ ) (cwV 1 hts gX8_setting_X8_refused rfl rfl rfl hd_X8_refused ⟨Nat.le_of_ble_eq_true rfl, Nat.le_of_ble_eq_true rfl⟩) (ci := 8) rfl rfl rfl rfl hl.1 rfl (Nat.le_of_ble_eq_true rfl) dX8_setting_18 ⟨Nat.le_of_ble_eq_true rfl, Nat.le_of_ble_eq_true rfl⟩) (fun r_3 u_3 H locs hw_3 hP hD hS => ?_)
    obtain ⟨rf_3, rfl⟩ : ∃ z, z = u_3 := ⟨_, rfl⟩
    obtain ⟨z1_3, z2_3⟩ := fx_ref1 hw_3
    subst z1_3
    subst z2_3
    have hP : va_P D vwCl [(nw, .inl (tc 0, 357, .inl row)), (mo, .inr (8, [.int 1, .ref sc, .int ss, .int sp, .int ig, .int lf, .ref rd, .ref nw, .ref tr, .ref di, .int ac, .ref kp, .ref ik]))] H := hP
    have hD : va_D A [(nw, .inl (tc 0, 357, .inl row)), (mo, .inr (8, [.int 1, .ref sc, .int ss, .int sp, .int ig, .int lf, .ref rd, .ref nw, .ref tr, .ref di, .int ac, .ref kp, .ref ik]))] := hD
    refine lv_if_eq (tgt := 28) hx hb dX8_setting_21 (by decide) (fun c_4 => ?_) (fun c_4 => ?_)
    · exact absurd c_4 (by decide)
    · refine lv_iconst (v := 0) hx hb dX8_setting_24 (by decide) ?_
      refine lv_goto (tgt := 34) hx hb dX8_setting_25 (by decide) ?_
      exact hret _ _ (0) 1 _ _ (by rw [mX8_setting]; (try dsimp only); rw [hw_1]; (try dsimp only); rw [if_pos c_2]; (first | done | rfl)) (hP.sub [1, 0] rfl) (hD.sub [1, 0] (by decide) rfl) hS dX8_setting_34
  · have hj_1 := hi_1.resolve_left c_2
    refine lv_iconst (v := 0) hx hb dX8_setting_13 (by decide) ?_
    refine lv_goto (tgt := 18) hx hb dX8_setting_14 (by decide) ?_
    refine fc_goi (isC := [0]) (isR := [1]) (wc := [(mo, .inr (8, [.int rf, .ref sc, .int ss, .int sp, .int ig, .int lf, .ref rd, .ref nw, .ref tr, .ref di, .int ac, .ref kp, .ref ik]))]) (wr := [(nw, .inl (tc 0, 357, .inl row))]) hP hD hS hA rfl rfl (by decide) (by decide) (fc_runV (isC := [0]) (As := [.int 0]) (rest := []) hx hb hml hown hts hK hE hP hD hS hA rfl (by decide) (c_X8_refused l D tc mo sc rd nw tr di kp ik rf ss sp ig lf ac 0 _ ) (cwV 1 hts gX8_setting_X8_refused rfl rfl rfl hd_X8_refused ⟨Nat.le_of_ble_eq_true rfl, Nat.le_of_ble_eq_true rfl⟩) (ci := 8) rfl rfl rfl rfl hl.1 rfl (Nat.le_of_ble_eq_true rfl) dX8_setting_18 ⟨Nat.le_of_ble_eq_true rfl, Nat.le_of_ble_eq_true rfl⟩) (fun r_5 u_5 H locs hw_5 hP hD hS => ?_)
    obtain ⟨rf_5, rfl⟩ : ∃ z, z = u_5 := ⟨_, rfl⟩
    obtain ⟨z1_5, z2_5⟩ := fx_ref0 hw_5
    subst z1_5
    subst z2_5
    have hP : va_P D vwCl [(nw, .inl (tc 0, 357, .inl row)), (mo, .inr (8, [.int 0, .ref sc, .int ss, .int sp, .int ig, .int lf, .ref rd, .ref nw, .ref tr, .ref di, .int ac, .ref kp, .ref ik]))] H := hP
    have hD : va_D A [(nw, .inl (tc 0, 357, .inl row)), (mo, .inr (8, [.int 0, .ref sc, .int ss, .int sp, .int ig, .int lf, .ref rd, .ref nw, .ref tr, .ref di, .int ac, .ref kp, .ref ik]))] := hD
    refine lv_if_eq (tgt := 28) hx hb dX8_setting_21 (by decide) (fun c_6 => ?_) (fun c_6 => ?_)
    · refine lv_aload_n hx hb dX8_setting_28 rfl (lv_at hl 0 rfl) ?_
      refine va_get (D := D) (ci := 8) (v := .ref nw) (C := RX8) (T := TX8) (N := 13) hx hb hts iX8_setting_X8 hown hK hP 1 rfl rfl 7 (by decide) (hts (.fieldLink RX8 16 "FrameCardModel" "now" "[I") (by decide +kernel)) (fun _ h9 => h9) rfl dX8_setting_29 ?_
      refine lv_iload_n hx hb dX8_setting_32 rfl (lv_at hl 1 rfl) ?_
      refine va_iald (D := D) hx hb hK hP 0 0 rfl rfl (by have l_0 : (0 : Int32).toInt = 0 := (by decide); have l_1 : (1 : Int32).toInt = 1 := (by decide); have l_2 : (2 : Int32).toInt = 2 := (by decide); have l_3 : (3 : Int32).toInt = 3 := (by decide); have l_4 : (4 : Int32).toInt = 4 := (by decide); have qc_2 := c_2; (try simp only [fc_le, fc_lt, fc_eq] at qc_2); have qhj_1 := hj_1; (try simp only [fc_le, fc_lt, fc_eq] at qhj_1); rw [vp_in_iff]; omega) dX8_setting_33 ?_
      exact hret _ _ (row p0.toNatClampNeg) 0 _ _ (by rw [mX8_setting]; (try dsimp only); rw [hw_1]; (try dsimp only); rw [if_neg c_2]; (first | done | rfl)) (hP.sub [1, 0] rfl) (hD.sub [1, 0] (by decide) rfl) hS dX8_setting_34
    · exact absurd (by decide) c_6
