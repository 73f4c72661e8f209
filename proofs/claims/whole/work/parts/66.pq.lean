/-! PURE: what is asked, on both sides -/
section
variable {Bd K W C B : Nat} {set holds : Nat → Int32} {count free dirty : Int32} {kc : Nat → Int32} {kl : Int32} {qc : Nat → Int32} {ql : Int32} {told : Nat → Int32} {rt rc rl rs re rb te ca dr lo la lp : Int32} {row : Nat → Int32}
variable {rf ss sp ig lf ac : Int32}
theorem px_in {x : Int32} {b c : Int64} {B C : Int} (hb : b.toInt = B) (hc : c.toInt = C) : mX8_in x.toInt64 b c = if B ≤ x.toInt ∧ x.toInt ≤ C then 1 else 0 := fx_in4 (Int32.toInt_toInt64 _) hb hc
theorem px_in1 {x : Int32} {b c : Int64} {B C : Int} (hb : b.toInt = B) (hc : c.toInt = C) (h : B ≤ x.toInt ∧ x.toInt ≤ C) : mX8_in x.toInt64 b c = 1 := by rw [px_in hb hc, if_pos h]
theorem px_in0 {x : Int32} {b c : Int64} {B C : Int} (hb : b.toInt = B) (hc : c.toInt = C) (h : ¬ (B ≤ x.toInt ∧ x.toInt ≤ C)) : mX8_in x.toInt64 b c = 0 := by rw [px_in hb hc, if_neg h]
theorem px_10 : ¬ (1 : Int32) = 0 := by decide
theorem px_ne {x : Int32} {n : Int} {k : Int32} (hk : k.toInt = n) (h : ¬ x.toInt = n) : ¬ x = k := fun e => h (by rw [e]; exact hk)
theorem px_isFrame {x : Int32} (h : row 16 = nI K) (hK : K ≤ 48) : mX8_isFrame rf ss sp ig lf ac row x = if 0 ≤ x.toInt ∧ x.toInt < K then 1 else 0 := by
  unfold mX8_isFrame
  dsimp only
  rw [pl_lit16, h]
  have e : (nI K - 1).toInt = (K : Int) - 1 := by
    have z := fc_nI (n := K) (by omega)
    have := fc_subk (x := nI K) (k := 1) (n := 1) (by decide) (by omega) (by omega)
    omega
  rw [px_in (show (0 : Int64).toInt = 0 by decide) ((Int32.toInt_toInt64 _).trans e)]
  by_cases q : 0 ≤ x.toInt ∧ x.toInt < K
  · rw [if_pos q, if_pos (by omega)]
  · rw [if_neg q, if_neg (by omega)]
theorem px_isWaiting {x : Int32} (h : row 17 = nI W) (hW : W ≤ 4) : mX8_isWaiting rf ss sp ig lf ac row x = if 0 ≤ x.toInt ∧ x.toInt < W then 1 else 0 := by
  unfold mX8_isWaiting
  dsimp only
  rw [pl_lit17, h]
  have e : (nI W - 1).toInt = (W : Int) - 1 := by
    have z := fc_nI (n := W) (by omega)
    have := fc_subk (x := nI W) (k := 1) (n := 1) (by decide) (by omega) (by omega)
    omega
  rw [px_in (show (0 : Int64).toInt = 0 by decide) ((Int32.toInt_toInt64 _).trans e)]
  by_cases q : 0 ≤ x.toInt ∧ x.toInt < W
  · rw [if_pos q, if_pos (by omega)]
  · rw [if_neg q, if_neg (by omega)]
theorem px_has {x : Int32} (hK : K < 1000) : mX1_has (nI K) x = if 0 ≤ x.toInt ∧ x.toInt < K then 1 else 0 := by
  have z := fc_nI (n := K) (by omega)
  by_cases q : 0 ≤ x.toInt ∧ x.toInt < K
  · rw [if_pos q]
    obtain ⟨e, -, w⟩ := fx_nn q.1
    rw [e]
    exact pg_has (by omega) (by omega)
  · rw [if_neg q]
    exact pg_has0 (by omega)
theorem P_about {p0 : Int32} (hR : RR Bd K W C B set holds count free dirty kc kl qc ql told rt rc rl rs re rb te ca dr lo la lp row) : (∃ r, mX7_about set holds count free dirty kc kl qc ql told rt rc rl rs re rb te ca dr lo la lp p0 = Sum.inr r ∧ mX8_about rf ss sp ig lf ac row p0 = (r, 0)) ∨ (mX7_about set holds count free dirty kc kl qc ql told rt rc rl rs re rb te ca dr lo la lp p0 = Sum.inl (fxE 0) ∧ mX8_about rf ss sp ig lf ac row p0 = (0, 1)) := by
  have hc1 := (R_count hR).1
  have hc2 := (R_count hR).2
  obtain ⟨⟨⟨⟨⟨s0, s1, s2⟩, s4, s5, s6, s7, s8⟩, s9, s10, s11, s12, s13, s14, s15⟩, ⟨⟨⟨n1, n2⟩, ⟨n3, n4⟩, ⟨n5, n6⟩, n7, n8⟩, w4, c8, c48⟩, hBl, hfr, hdi⟩, ⟨hKe, hQu, hNu⟩, hTo, hBd⟩ := hR
  have K2 : kl = row 16 := n1.trans n2.symm
  have W2 : ql = row 17 := n3.trans n4.symm
  have C2 : count = row 3 := n5.trans n6.symm
  by_cases hin : 0 ≤ p0.toInt ∧ p0.toInt ≤ 13
  · left
    have e8 : mX8_in p0.toInt64 0 13 = 1 := px_in1 (show (0 : Int64).toInt = 0 by decide) (show (13 : Int64).toInt = 13 by decide) hin
    unfold mX7_about mX8_about
    rw [e8]
    dsimp only
    rw [if_neg px_10]
    clear e8
    by_cases c0 : p0.toInt = 0
    · obtain rfl : p0 = 0 := by
        have l : (0 : Int32).toInt = 0 := by decide
        rw [fc_eq, l]; exact c0
      refine ⟨te, ?_, ?_⟩
      · rw [if_pos rfl]
      · rw [if_pos rfl]
        rw [show (((4 : Int32) + 0 : Int32)).toNatClampNeg = 4 by decide, ← s4]
    by_cases c1 : p0.toInt = 1
    · obtain rfl : p0 = 1 := by
        have l : (1 : Int32).toInt = 1 := by decide
        rw [fc_eq, l]; exact c1
      refine ⟨ca, ?_, ?_⟩
      · rw [if_neg (by decide), if_pos rfl]
      · rw [if_neg (by decide), if_pos rfl]
        rw [show (((4 : Int32) + 1 : Int32)).toNatClampNeg = 5 by decide, ← s5]
    by_cases c2 : p0.toInt = 2
    · obtain rfl : p0 = 2 := by
        have l : (2 : Int32).toInt = 2 := by decide
        rw [fc_eq, l]; exact c2
      refine ⟨kl, ?_, ?_⟩
      · rw [if_neg (by decide), if_neg (by decide), if_pos rfl]
      · rw [if_neg (by decide), if_neg (by decide), if_pos rfl]
        rw [show ((16 : Int32)).toNatClampNeg = 16 by decide, ← K2]
    by_cases c3 : p0.toInt = 3
    · obtain rfl : p0 = 3 := by
        have l : (3 : Int32).toInt = 3 := by decide
        rw [fc_eq, l]; exact c3
      refine ⟨ql, ?_, ?_⟩
      · rw [if_neg (by decide), if_neg (by decide), if_neg (by decide), if_pos rfl]
      · rw [if_neg (by decide), if_neg (by decide), if_neg (by decide), if_pos rfl]
        rw [show ((17 : Int32)).toNatClampNeg = 17 by decide, ← W2]
    by_cases c4 : p0.toInt = 4
    · obtain rfl : p0 = 4 := by
        have l : (4 : Int32).toInt = 4 := by decide
        rw [fc_eq, l]; exact c4
      refine ⟨dr, ?_, ?_⟩
      · rw [if_neg (by decide), if_neg (by decide), if_neg (by decide), if_neg (by decide), if_pos rfl]
      · rw [if_neg (by decide), if_neg (by decide), if_neg (by decide), if_neg (by decide), if_pos rfl]
        rw [show (((4 : Int32) + 2 : Int32)).toNatClampNeg = 6 by decide, ← s6]
    by_cases c5 : p0.toInt = 5
    · obtain rfl : p0 = 5 := by
        have l : (5 : Int32).toInt = 5 := by decide
        rw [fc_eq, l]; exact c5
      refine ⟨lo, ?_, ?_⟩
      · rw [if_neg (by decide), if_neg (by decide), if_neg (by decide), if_neg (by decide), if_neg (by decide), if_pos rfl]
      · rw [if_neg (by decide), if_neg (by decide), if_neg (by decide), if_neg (by decide), if_neg (by decide), if_pos rfl]
        rw [show (((5 : Int32) + 2 : Int32)).toNatClampNeg = 7 by decide, ← s7]
    by_cases c6 : p0.toInt = 6
    · obtain rfl : p0 = 6 := by
        have l : (6 : Int32).toInt = 6 := by decide
        rw [fc_eq, l]; exact c6
      refine ⟨la, ?_, ?_⟩
      · rw [if_neg (by decide), if_neg (by decide), if_neg (by decide), if_neg (by decide), if_neg (by decide), if_neg (by decide), if_pos rfl]
      · rw [if_neg (by decide), if_neg (by decide), if_neg (by decide), if_neg (by decide), if_neg (by decide), if_neg (by decide), if_pos rfl]
        rw [show (((6 : Int32) + 2 : Int32)).toNatClampNeg = 8 by decide, ← s8]
    by_cases c7 : p0.toInt = 7
    · obtain rfl : p0 = 7 := by
        have l : (7 : Int32).toInt = 7 := by decide
        rw [fc_eq, l]; exact c7
      refine ⟨free, ?_, ?_⟩
      · rw [if_neg (by decide), if_neg (by decide), if_neg (by decide), if_neg (by decide), if_neg (by decide), if_neg (by decide), if_neg (by decide), if_pos rfl]
      · rw [if_neg (by decide), if_neg (by decide), if_neg (by decide), if_neg (by decide), if_neg (by decide), if_neg (by decide), if_neg (by decide), if_pos rfl]
        rw [hc1]
    by_cases c8 : p0.toInt = 8
    · obtain rfl : p0 = 8 := by
        have l : (8 : Int32).toInt = 8 := by decide
        rw [fc_eq, l]; exact c8
      refine ⟨dirty, ?_, ?_⟩
      · rw [if_neg (by decide), if_neg (by decide), if_neg (by decide), if_neg (by decide), if_neg (by decide), if_neg (by decide), if_neg (by decide), if_neg (by decide), if_pos rfl]
      · rw [if_neg (by decide), if_neg (by decide), if_neg (by decide), if_neg (by decide), if_neg (by decide), if_neg (by decide), if_neg (by decide), if_neg (by decide), if_pos rfl]
        rw [hc2]
    by_cases c9 : p0.toInt = 9
    · obtain rfl : p0 = 9 := by
        have l : (9 : Int32).toInt = 9 := by decide
        rw [fc_eq, l]; exact c9
      refine ⟨re, ?_, ?_⟩
      · rw [if_neg (by decide), if_neg (by decide), if_neg (by decide), if_neg (by decide), if_neg (by decide), if_neg (by decide), if_neg (by decide), if_neg (by decide), if_neg (by decide), if_pos rfl]
      · rw [if_neg (by decide), if_neg (by decide), if_neg (by decide), if_neg (by decide), if_neg (by decide), if_neg (by decide), if_neg (by decide), if_neg (by decide), if_neg (by decide), if_pos rfl]
        rw [show ((9 : Int32)).toNatClampNeg = 9 by decide, ← s9]
    by_cases c10 : p0.toInt = 10
    · obtain rfl : p0 = 10 := by
        have l : (10 : Int32).toInt = 10 := by decide
        rw [fc_eq, l]; exact c10
      refine ⟨rb, ?_, ?_⟩
      · rw [if_neg (by decide), if_neg (by decide), if_neg (by decide), if_neg (by decide), if_neg (by decide), if_neg (by decide), if_neg (by decide), if_neg (by decide), if_neg (by decide), if_neg (by decide), if_pos rfl]
      · rw [if_neg (by decide), if_neg (by decide), if_neg (by decide), if_neg (by decide), if_neg (by decide), if_neg (by decide), if_neg (by decide), if_neg (by decide), if_neg (by decide), if_neg (by decide), if_pos rfl]
        rw [show ((10 : Int32)).toNatClampNeg = 10 by decide, ← s10]
    by_cases c11 : p0.toInt = 11
    · obtain rfl : p0 = 11 := by
        have l : (11 : Int32).toInt = 11 := by decide
        rw [fc_eq, l]; exact c11
      refine ⟨count, ?_, ?_⟩
      · rw [if_neg (by decide), if_neg (by decide), if_neg (by decide), if_neg (by decide), if_neg (by decide), if_neg (by decide), if_neg (by decide), if_neg (by decide), if_neg (by decide), if_neg (by decide), if_neg (by decide), if_pos rfl]
      · rw [if_neg (by decide), if_neg (by decide), if_neg (by decide), if_neg (by decide), if_neg (by decide), if_neg (by decide), if_neg (by decide), if_neg (by decide), if_neg (by decide), if_neg (by decide), if_neg (by decide), if_pos rfl]
        rw [show ((3 : Int32)).toNatClampNeg = 3 by decide, ← C2]
    by_cases c12 : p0.toInt = 12
    · obtain rfl : p0 = 12 := by
        have l : (12 : Int32).toInt = 12 := by decide
        rw [fc_eq, l]; exact c12
      refine ⟨rt, ?_, ?_⟩
      · rw [if_neg (by decide), if_neg (by decide), if_neg (by decide), if_neg (by decide), if_neg (by decide), if_neg (by decide), if_neg (by decide), if_neg (by decide), if_neg (by decide), if_neg (by decide), if_neg (by decide), if_neg (by decide), if_pos rfl]
      · rw [if_neg (by decide), if_neg (by decide), if_neg (by decide), if_neg (by decide), if_neg (by decide), if_neg (by decide), if_neg (by decide), if_neg (by decide), if_neg (by decide), if_neg (by decide), if_neg (by decide), if_neg (by decide), if_pos rfl]
        rw [show ((11 : Int32)).toNatClampNeg = 11 by decide, ← s11]
    by_cases c13 : p0.toInt = 13
    · obtain rfl : p0 = 13 := by
        have l : (13 : Int32).toInt = 13 := by decide
        rw [fc_eq, l]; exact c13
      refine ⟨rs, ?_, ?_⟩
      · rw [if_neg (by decide), if_neg (by decide), if_neg (by decide), if_neg (by decide), if_neg (by decide), if_neg (by decide), if_neg (by decide), if_neg (by decide), if_neg (by decide), if_neg (by decide), if_neg (by decide), if_neg (by decide), if_neg (by decide), if_pos rfl]
      · rw [if_neg (by decide), if_neg (by decide), if_neg (by decide), if_neg (by decide), if_neg (by decide), if_neg (by decide), if_neg (by decide), if_neg (by decide), if_neg (by decide), if_neg (by decide), if_neg (by decide), if_neg (by decide), if_neg (by decide), if_pos rfl]
        rw [show ((12 : Int32)).toNatClampNeg = 12 by decide, ← s12]
    omega
  · right
    have e8 : mX8_in p0.toInt64 0 13 = 0 := px_in0 (show (0 : Int64).toInt = 0 by decide) (show (13 : Int64).toInt = 13 by decide) hin
    unfold mX7_about mX8_about
    rw [e8]
    dsimp only
    rw [if_pos rfl]
    rw [if_neg (px_ne (n := 0) (by decide) (by omega))]
    rw [if_neg (px_ne (n := 1) (by decide) (by omega))]
    rw [if_neg (px_ne (n := 2) (by decide) (by omega))]
    rw [if_neg (px_ne (n := 3) (by decide) (by omega))]
    rw [if_neg (px_ne (n := 4) (by decide) (by omega))]
    rw [if_neg (px_ne (n := 5) (by decide) (by omega))]
    rw [if_neg (px_ne (n := 6) (by decide) (by omega))]
    rw [if_neg (px_ne (n := 7) (by decide) (by omega))]
    rw [if_neg (px_ne (n := 8) (by decide) (by omega))]
    rw [if_neg (px_ne (n := 9) (by decide) (by omega))]
    rw [if_neg (px_ne (n := 10) (by decide) (by omega))]
    rw [if_neg (px_ne (n := 11) (by decide) (by omega))]
    rw [if_neg (px_ne (n := 12) (by decide) (by omega))]
    rw [if_neg (px_ne (n := 13) (by decide) (by omega))]
    exact ⟨rfl, rfl⟩
theorem P_setting {p0 : Int32} (hR : RR Bd K W C B set holds count free dirty kc kl qc ql told rt rc rl rs re rb te ca dr lo la lp row) : (∃ r, mX7_setting set holds count free dirty kc kl qc ql told rt rc rl rs re rb te ca dr lo la lp p0 = Sum.inr r ∧ mX8_setting rf ss sp ig lf ac row p0 = (r, 0)) ∨ (mX7_setting set holds count free dirty kc kl qc ql told rt rc rl rs re rb te ca dr lo la lp p0 = Sum.inl (fxE 0) ∧ mX8_setting rf ss sp ig lf ac row p0 = (0, 1)) := by
  obtain ⟨⟨⟨⟨⟨s0, s1, s2⟩, s4, s5, s6, s7, s8⟩, s9, s10, s11, s12, s13, s14, s15⟩, ⟨⟨⟨n1, n2⟩, ⟨n3, n4⟩, ⟨n5, n6⟩, n7, n8⟩, w4, c8, c48⟩, hBl, hfr, hdi⟩, ⟨hKe, hQu, hNu⟩, hTo, hBd⟩ := hR
  have l0 : (0 : Int32).toInt = 0 := by decide
  have l3 : (3 : Int32).toInt = 3 := by decide
  unfold mX7_setting mX8_setting
  by_cases h1 : p0.toInt < 0
  · right
    rw [if_pos (show p0 < 0 by rw [fc_lt]; omega), px_in0 (show (0 : Int64).toInt = 0 by decide) (show (2 : Int64).toInt = 2 by decide) (by omega)]
    exact ⟨rfl, rfl⟩
  · rw [if_neg (show ¬ p0 < 0 by rw [fc_lt]; omega)]
    by_cases h2 : p0.toInt < 3
    · left
      rw [if_pos (show p0 < 3 by rw [fc_lt]; omega), px_in1 (show (0 : Int64).toInt = 0 by decide) (show (2 : Int64).toInt = 2 by decide) (by omega)]
      refine ⟨set p0.toNatClampNeg, rfl, ?_⟩
      have hk : p0.toNatClampNeg < 3 := by rw [fc_cl]; omega
      have e : set p0.toNatClampNeg = row p0.toNatClampNeg := by
        generalize p0.toNatClampNeg = k at hk
        match k, hk with
        | 0, _ => exact s0
        | 1, _ => exact s1
        | 2, _ => exact s2
      rw [e]
      dsimp only
      rw [if_neg px_10]
    · right
      rw [if_neg (show ¬ p0 < 3 by rw [fc_lt]; omega), px_in0 (show (0 : Int64).toInt = 0 by decide) (show (2 : Int64).toInt = 2 by decide) (by omega)]
      exact ⟨rfl, rfl⟩
theorem P_block {p0 : Int32} (hR : RR Bd K W C B set holds count free dirty kc kl qc ql told rt rc rl rs re rb te ca dr lo la lp row) : (∃ r, mX7_block set holds count free dirty kc kl qc ql told rt rc rl rs re rb te ca dr lo la lp p0 = Sum.inr r ∧ mX8_block rf ss sp ig lf ac row p0 = (r, 0)) ∨ (mX7_block set holds count free dirty kc kl qc ql told rt rc rl rs re rb te ca dr lo la lp p0 = Sum.inl (fxE 2) ∧ mX8_block rf ss sp ig lf ac row p0 = (0, 1)) := by
  obtain ⟨⟨⟨⟨⟨s0, s1, s2⟩, s4, s5, s6, s7, s8⟩, s9, s10, s11, s12, s13, s14, s15⟩, ⟨⟨⟨n1, n2⟩, ⟨n3, n4⟩, ⟨n5, n6⟩, n7, n8⟩, w4, c8, c48⟩, hBl, hfr, hdi⟩, ⟨hKe, hQu, hNu⟩, hTo, hBd⟩ := hR
  have l0 : (0 : Int32).toInt = 0 := by decide
  have l48 : (48 : Int32).toInt = 48 := by decide
  have zc := fc_nI (n := C) (by omega)
  have e3 : (nI C - 1).toInt = (C : Int) - 1 := by
    have := fc_subk (x := nI C) (k := 1) (n := 1) (by decide) (by omega) (by omega)
    omega
  unfold mX7_block mX8_block
  rw [pl_3, n6, n5]
  by_cases h1 : p0.toInt < 0
  · right
    rw [if_pos (show p0 < 0 by rw [fc_lt]; omega), px_in0 (show (0 : Int64).toInt = 0 by decide) ((Int32.toInt_toInt64 _).trans e3) (by omega)]
    exact ⟨rfl, rfl⟩
  · rw [if_neg (show ¬ p0 < 0 by rw [fc_lt]; omega)]
    by_cases h2 : p0.toInt < C
    · left
      obtain ⟨e, -, z⟩ := fx_nn (x := p0) (by omega)
      have hk : p0.toNatClampNeg < C := by omega
      rw [if_pos (show p0 < nI C by rw [fc_lt]; omega), px_in1 (show (0 : Int64).toInt = 0 by decide) ((Int32.toInt_toInt64 _).trans e3) (by omega)]
      rw [e]
      generalize p0.toNatClampNeg = k at hk
      refine ⟨holds k, ?_, ?_⟩
      · unfold mX0_get
        rw [if_neg (nI_pos (by omega)), if_neg (show ¬ (48 : Int32) ≤ nI k from nI_ge (b := 48) (by omega) (by decide)), nI_clamp (by omega)]
      · dsimp only
        rw [if_neg px_10, p19, nI_clamp (by omega), ← hBl k hk]
    · right
      rw [if_neg (show ¬ p0 < nI C by rw [fc_lt]; omega), px_in0 (show (0 : Int64).toInt = 0 by decide) ((Int32.toInt_toInt64 _).trans e3) (by omega)]
      exact ⟨rfl, rfl⟩
theorem P_waiting {p0 p1 : Int32} (hR : RR Bd K W C B set holds count free dirty kc kl qc ql told rt rc rl rs re rb te ca dr lo la lp row) : (∃ r, mX7_waiting set holds count free dirty kc kl qc ql told rt rc rl rs re rb te ca dr lo la lp p0 p1 = Sum.inr r ∧ mX8_waiting rf ss sp ig lf ac row p0 p1 = (r, 0)) ∨ (mX7_waiting set holds count free dirty kc kl qc ql told rt rc rl rs re rb te ca dr lo la lp p0 p1 = Sum.inl (fxE 2) ∧ mX8_waiting rf ss sp ig lf ac row p0 p1 = (0, 1)) ∨ (mX7_waiting set holds count free dirty kc kl qc ql told rt rc rl rs re rb te ca dr lo la lp p0 p1 = Sum.inl (fxE 0) ∧ mX8_waiting rf ss sp ig lf ac row p0 p1 = (0, 2)) := by
  obtain ⟨⟨⟨⟨⟨s0, s1, s2⟩, s4, s5, s6, s7, s8⟩, s9, s10, s11, s12, s13, s14, s15⟩, ⟨⟨⟨n1, n2⟩, ⟨n3, n4⟩, ⟨n5, n6⟩, n7, n8⟩, w4, c8, c48⟩, hBl, hfr, hdi⟩, ⟨hKe, hQu, hNu⟩, hTo, hBd⟩ := hR
  unfold mX7_waiting mX8_waiting
  rw [n3, px_has (by omega), px_isWaiting n4 w4]
  by_cases h1 : 0 ≤ p0.toInt ∧ p0.toInt < W
  · rw [if_pos h1]
    dsimp only
    rw [if_neg px_10, if_neg px_10]
    by_cases h2 : 0 ≤ p1.toInt ∧ p1.toInt ≤ 3
    · left
      rw [px_in1 (show (0 : Int64).toInt = 0 by decide) (show (3 : Int64).toInt = 3 by decide) h2, if_neg px_10]
      obtain ⟨e, -, z⟩ := fx_nn h1.1
      obtain ⟨e1, -, z1⟩ := fx_nn h2.1
      have hi : p0.toNatClampNeg < W := by omega
      have hk : p1.toNatClampNeg < 4 := by omega
      rw [e, e1]
      generalize p0.toNatClampNeg = i at hi
      generalize p1.toNatClampNeg = k at hk
      have hq := (hQu i hi).1
      have g : ∀ w : Nat, w < 4 → mX1_get 28 qc (nI W) (nI i) (nI w) = row (307 + 4 * i + w) := fun w hw => by
        rw [pg_get (by decide) (by omega) hi (by omega)]; exact hq w hw
      have f : ∀ w : Nat, w < 4 → row (mX8_waitAt (nI i) (nI w)).toNatClampNeg = row (307 + 4 * i + w) := fun w hw => by
        rw [show mX8_waitAt (nI i) (nI w) = nI (307 + 4 * i + w) from pwA i w, nI_clamp (by omega)]
      match k, hk with
      | 0, h =>
        refine ⟨_, ?_, by rw [f 0 h]⟩
        rw [if_pos (show nI 0 = 0 from rfl)]
        exact congrArg Sum.inr (g 0 h)
      | 1, h =>
        refine ⟨_, ?_, by rw [f 1 h]⟩
        rw [if_neg (show ¬ nI 1 = 0 by decide), if_pos (show nI 1 = 1 from rfl)]
        exact congrArg Sum.inr (g 1 h)
      | 2, h =>
        refine ⟨_, ?_, by rw [f 2 h]⟩
        rw [if_neg (show ¬ nI 2 = 0 by decide), if_neg (show ¬ nI 2 = 1 by decide), if_pos (show nI 2 = 2 from rfl)]
        exact congrArg Sum.inr (g 2 h)
      | 3, h =>
        refine ⟨_, ?_, by rw [f 3 h]⟩
        rw [if_neg (show ¬ nI 3 = 0 by decide), if_neg (show ¬ nI 3 = 1 by decide), if_neg (show ¬ nI 3 = 2 by decide), if_pos (show nI 3 = 3 from rfl)]
        exact congrArg Sum.inr (g 3 h)
    · right; right
      rw [px_in0 (show (0 : Int64).toInt = 0 by decide) (show (3 : Int64).toInt = 3 by decide) h2, if_pos rfl]
      rw [if_neg (px_ne (n := 0) (by decide) (by omega)), if_neg (px_ne (n := 1) (by decide) (by omega)), if_neg (px_ne (n := 2) (by decide) (by omega)), if_neg (px_ne (n := 3) (by decide) (by omega))]
      exact ⟨rfl, rfl⟩
  · right; left
    rw [if_neg h1]
    exact ⟨rfl, rfl⟩
theorem P_broken {p0 p1 : Int32} (hR : RR Bd K W C B set holds count free dirty kc kl qc ql told rt rc rl rs re rb te ca dr lo la lp row) (hB : Bd < 1000000000) : (∃ r, mX7_broken set holds count free dirty kc kl qc ql told rt rc rl rs re rb te ca dr lo la lp p0 p1 = Sum.inr r ∧ mX8_broken rf ss sp ig lf ac row p0 p1 = (r, 0)) ∨ (mX7_broken set holds count free dirty kc kl qc ql told rt rc rl rs re rb te ca dr lo la lp p0 p1 = Sum.inl (fxE 2) ∧ mX8_broken rf ss sp ig lf ac row p0 p1 = (0, 1)) ∨ (mX7_broken set holds count free dirty kc kl qc ql told rt rc rl rs re rb te ca dr lo la lp p0 p1 = Sum.inl (fxE 0) ∧ mX8_broken rf ss sp ig lf ac row p0 p1 = (0, 2)) := by
  obtain ⟨⟨⟨⟨⟨s0, s1, s2⟩, s4, s5, s6, s7, s8⟩, s9, s10, s11, s12, s13, s14, s15⟩, ⟨⟨⟨n1, n2⟩, ⟨n3, n4⟩, ⟨n5, n6⟩, n7, n8⟩, w4, c8, c48⟩, hBl, hfr, hdi⟩, ⟨hKe, hQu, hNu⟩, hTo, hBd⟩ := hR
  have hBB := hBd.2.2.1
  have l0 : (0 : Int32).toInt = 0 := by decide
  have l10 : (10 : Int32).toInt = 10 := by decide
  have l3 : (3 : Int32).toInt = 3 := by decide
  have zb := fc_nI (n := B) (by omega)
  have zm := fc_nI (n := min B 10) (by omega)
  have e3 : (nI (min B 10) - 1).toInt = ((min B 10 : Nat) : Int) - 1 := by
    have := fc_subk (x := nI (min B 10)) (k := 1) (n := 1) (by decide) (by omega) (by omega)
    omega
  have ht : mX3_tells told rt rc rl rs re rb p0 = if 0 ≤ p0.toInt ∧ p0.toInt < ((min B 10 : Nat) : Int) then 1 else 0 := by
    unfold mX3_tells
    rw [n7]
    by_cases h1 : p0.toInt < 0
    · rw [if_pos (show p0 < 0 by rw [fc_lt]; omega), if_neg (by omega)]
    · rw [if_neg (show ¬ p0 < 0 by rw [fc_lt]; omega)]
      by_cases h2 : 10 ≤ p0.toInt
      · rw [if_pos (show 10 ≤ p0 by rw [fc_le]; omega), if_neg (by omega)]
      · rw [if_neg (show ¬ 10 ≤ p0 by rw [fc_le]; omega)]
        by_cases h3 : (B : Int) ≤ p0.toInt
        · rw [if_pos (show nI B ≤ p0 by rw [fc_le]; omega), if_neg (by omega)]
        · rw [if_neg (show ¬ nI B ≤ p0 by rw [fc_le]; omega), if_pos (by omega)]
  unfold mX7_broken mX8_broken
  rw [ht, pl_lit18, n8]
  by_cases h1 : 0 ≤ p0.toInt ∧ p0.toInt < ((min B 10 : Nat) : Int)
  · rw [if_pos h1, px_in1 (show (0 : Int64).toInt = 0 by decide) ((Int32.toInt_toInt64 _).trans e3) (by omega)]
    dsimp only
    rw [if_neg px_10, if_neg px_10]
    by_cases h2 : 0 ≤ p1.toInt ∧ p1.toInt ≤ 2
    · left
      rw [px_in1 (show (0 : Int64).toInt = 0 by decide) (show (2 : Int64).toInt = 2 by decide) h2, if_neg px_10, if_neg (show ¬ p1 < 0 by rw [fc_lt]; omega), if_pos (show p1 < 3 by rw [fc_lt]; omega)]
      obtain ⟨e, -, z⟩ := fx_nn h1.1
      obtain ⟨e1, -, z1⟩ := fx_nn h2.1
      have hi : p0.toNatClampNeg < min B 10 := by omega
      have hk : p1.toNatClampNeg < 3 := by omega
      rw [e, e1]
      generalize p0.toNatClampNeg = i at hi
      generalize p1.toNatClampNeg = k at hk
      refine ⟨row (327 + 3 * i + k), ?_, ?_⟩
      · refine congrArg Sum.inr ?_
        rw [← hTo i hi k hk]
        have ea : (nI B - 1 - nI i) = nI (B - 1 - i) := by
          show nI B - nI 1 - nI i = _
          rw [pk_sub (by omega), pk_sub (by omega)]
        have er : (nI (B - 1 - i) - nI (B - 1 - i) / 10 * 10) = nI ((B - 1 - i) % 10) := pk_rem (d := 10) (by omega) (by decide) (by decide)
        have em : nI ((B - 1 - i) % 10) * 3 + nI k = nI ((B - 1 - i) % 10 * 3 + k) := by
          show nI ((B - 1 - i) % 10) * nI 3 + nI k = _
          rw [pk_mul, nI_add]
        have hr := Nat.mod_lt (B - 1 - i) (show 0 < 10 by decide)
        unfold mX3_get
        rw [n7, ea, er, em, if_neg (nI_pos (by omega)), if_neg (show ¬ (30 : Int32) ≤ nI _ from nI_ge (b := 30) (by omega) (by decide)), nI_clamp (by omega)]
      · have em : (327 : Int32) + 3 * nI i + nI k = nI (327 + 3 * i + k) := by
          show nI 327 + nI 3 * nI i + nI k = _
          rw [pk_mul, nI_add, nI_add]
        rw [em, nI_clamp (by omega)]
    · right; right
      rw [px_in0 (show (0 : Int64).toInt = 0 by decide) (show (2 : Int64).toInt = 2 by decide) h2, if_pos rfl]
      by_cases h3 : p1.toInt < 0
      · rw [if_pos (show p1 < 0 by rw [fc_lt]; omega)]
        exact ⟨rfl, rfl⟩
      · rw [if_neg (show ¬ p1 < 0 by rw [fc_lt]; omega), if_neg (show ¬ p1 < 3 by rw [fc_lt]; omega)]
        exact ⟨rfl, rfl⟩
  · right; left
    rw [if_neg h1, px_in0 (show (0 : Int64).toInt = 0 by decide) ((Int32.toInt_toInt64 _).trans e3) (by omega)]
    exact ⟨rfl, rfl⟩
theorem r_lowest_L {row : Nat → Int32} {v p0 : Int32} : ∀ (k i : Nat) (x y : Int32), y.toInt = (i : Int) - 1 → i ≤ 48 → i < k →
    (∀ m, m < i → row (19 + m) = v → (∀ j, j < m → row (19 + j) ≠ v) → mX8_lowest_L11 rf ss sp ig lf ac row v k x y = nI m) ∧ ((∀ j, j < i → row (19 + j) ≠ v) → mX8_lowest_L11 rf ss sp ig lf ac row v k x y = x) := by
  intro k
  induction k with
  | zero => intro i x y h1 h2 h3; omega
  | succ k ih =>
    intro i x y h1 h2 h3
    have l0 : (0 : Int32).toInt = 0 := by decide
    rw [mX8_lowest_L11_s, mX8_lowest_S11]
    rcases Nat.eq_zero_or_pos i with e | e
    · subst e
      rw [if_pos (by rw [fc_lt]; omega)]
      exact ⟨fun m hm => absurd hm (Nat.not_lt_zero _), fun _ => rfl⟩
    · rw [if_neg (by rw [fc_lt]; omega)]
      have ey : y = nI (i - 1) := by rw [fc_eq, fc_nI (by omega)]; omega
      have e19 : ((19 + y) : Int32).toNatClampNeg = 19 + (i - 1) := by rw [ey, p19, nI_clamp (by omega)]
      have hd := fx_dec h1 ⟨e, h2⟩
      rw [e19]
      by_cases c : row (19 + (i - 1)) = v
      · rw [if_pos c]
        obtain ⟨a1, a2⟩ := ih (i - 1) y (y + (-1)) hd (by omega) (by omega)
        refine ⟨fun m hm q1 q2 => ?_, fun q => absurd c (q (i - 1) (by omega))⟩
        by_cases z : m = i - 1
        · subst z
          rw [a2 q2]; exact ey
        · exact a1 m (by omega) q1 q2
      · rw [if_neg c]
        obtain ⟨a1, a2⟩ := ih (i - 1) x (y + (-1)) hd (by omega) (by omega)
        refine ⟨fun m hm q1 q2 => ?_, fun q => a2 (fun j hj => q j (by omega))⟩
        by_cases z : m = i - 1
        · subst z; exact absurd q1 c
        · exact a1 m (by omega) q1 q2
theorem r_lowest {row holds : Nat → Int32} {v : Int32} {C m : Nat} (h3 : row 3 = nI C) (hC : 8 ≤ C ∧ C ≤ 48) (hb : ∀ b, b < C → holds b = row (19 + b)) (hm : plow holds v C m) : mX8_lowest rf ss sp ig lf ac row v = nI m := by
  unfold mX8_lowest
  rw [pl_3, h3]
  have z := fc_nI (n := C) (by omega)
  have e3 : (nI C - 1).toInt = (C : Int) - 1 := by
    have := fc_subk (x := nI C) (k := 1) (n := 1) (by decide) (by omega) (by omega)
    omega
  exact (r_lowest_L (p0 := 0) 49 C (-1) (nI C - 1) e3 (by omega) (by omega)).1 m hm.1 (by rw [← hb m hm.1]; exact hm.2.1) (fun j hj => by rw [← hb j (by have := hm.1; omega)]; exact hm.2.2 j hj)
theorem P_frame {p0 p1 : Int32} (hR : RR Bd K W C B set holds count free dirty kc kl qc ql told rt rc rl rs re rb te ca dr lo la lp row) : (∃ r, mX7_frame set holds count free dirty kc kl qc ql told rt rc rl rs re rb te ca dr lo la lp p0 p1 = Sum.inr r ∧ mX8_frame rf ss sp ig lf ac row p0 p1 = (r, 0)) ∨ (mX7_frame set holds count free dirty kc kl qc ql told rt rc rl rs re rb te ca dr lo la lp p0 p1 = Sum.inl (fxE 2) ∧ mX8_frame rf ss sp ig lf ac row p0 p1 = (0, 1)) ∨ (mX7_frame set holds count free dirty kc kl qc ql told rt rc rl rs re rb te ca dr lo la lp p0 p1 = Sum.inl (fxE 0) ∧ mX8_frame rf ss sp ig lf ac row p0 p1 = (0, 2)) := by
  have hK48 := (RR_cnt hR).2.2.1
  obtain ⟨⟨⟨⟨⟨s0, s1, s2⟩, s4, s5, s6, s7, s8⟩, s9, s10, s11, s12, s13, s14, s15⟩, ⟨⟨⟨n1, n2⟩, ⟨n3, n4⟩, ⟨n5, n6⟩, n7, n8⟩, w4, c8, c48⟩, hBl, hfr, hdi⟩, ⟨hKe, hQu, hNu⟩, hTo, hBd⟩ := hR
  unfold mX7_frame mX8_frame
  rw [n1, px_has (by omega), px_isFrame n2 hK48]
  by_cases h1 : 0 ≤ p0.toInt ∧ p0.toInt < K
  · rw [if_pos h1]
    dsimp only
    rw [if_neg px_10, if_neg px_10]
    by_cases h2 : 0 ≤ p1.toInt ∧ p1.toInt ≤ 6
    · left
      rw [px_in1 (show (0 : Int64).toInt = 0 by decide) (show (6 : Int64).toInt = 6 by decide) h2, if_neg px_10]
      obtain ⟨e, -, z⟩ := fx_nn h1.1
      obtain ⟨e1, -, z1⟩ := fx_nn h2.1
      have hi : p0.toNatClampNeg < K := by omega
      have hk : p1.toNatClampNeg < 7 := by omega
      rw [e, e1]
      generalize p0.toNatClampNeg = i at hi
      generalize p1.toNatClampNeg = k at hk
      obtain ⟨q1, q2, q3, n, m, q4, q5, q6, q7, q8, q9⟩ := hKe i hi
      have g : ∀ w : Nat, w < 7 → mX1_get 336 kc (nI K) (nI i) (nI w) = kc (7 * i + w) := fun w hw => pg_get (by decide) (by omega) hi hw
      have f : ∀ w : Nat, w < 6 → row (mX8_keptAt (nI i) (nI w)).toNatClampNeg = row (67 + 5 * i + w) := fun w hw => by
        rw [show mX8_keptAt (nI i) (nI w) = nI (67 + 5 * i + w) from pkA i w, nI_clamp (by omega)]
      match k, hk with
      | 0, _ =>
        refine ⟨row (67 + 5 * i + 0), (by
          rw [if_pos (show nI 0 = 0 from rfl)]
          exact congrArg Sum.inr ((g 0 (by omega)).trans (q1 0 (by omega)))), ?_⟩
        rw [if_neg (show ¬ nI 0 = 3 by decide), if_neg (show ¬ nI 0 = 4 by decide), if_neg (show ¬ nI 0 = 5 by decide), if_neg (show ¬ nI 0 = 6 by decide)]
        rw [f 0 (by omega)]
      | 1, _ =>
        refine ⟨row (67 + 5 * i + 1), (by
          rw [if_neg (show ¬ nI 1 = 0 by decide), if_pos (show nI 1 = 1 from rfl)]
          exact congrArg Sum.inr ((g 1 (by omega)).trans (q1 1 (by omega)))), ?_⟩
        rw [if_neg (show ¬ nI 1 = 3 by decide), if_neg (show ¬ nI 1 = 4 by decide), if_neg (show ¬ nI 1 = 5 by decide), if_neg (show ¬ nI 1 = 6 by decide)]
        rw [f 1 (by omega)]
      | 2, _ =>
        refine ⟨row (67 + 5 * i + 2), (by
          rw [if_neg (show ¬ nI 2 = 0 by decide), if_neg (show ¬ nI 2 = 1 by decide), if_pos (show nI 2 = 2 from rfl)]
          exact congrArg Sum.inr ((g 2 (by omega)).trans (q1 2 (by omega)))), ?_⟩
        rw [if_neg (show ¬ nI 2 = 3 by decide), if_neg (show ¬ nI 2 = 4 by decide), if_neg (show ¬ nI 2 = 5 by decide), if_neg (show ¬ nI 2 = 6 by decide)]
        rw [f 2 (by omega)]
      | 3, _ =>
        refine ⟨(if i = 0 then -1 else mX7_difference (row (67 + 5 * (i - 1) + 1)) (row (67 + 5 * i + 1))), (by
          rw [if_neg (show ¬ nI 3 = 0 by decide), if_neg (show ¬ nI 3 = 1 by decide), if_neg (show ¬ nI 3 = 2 by decide), if_pos (show nI 3 = 3 from rfl)]
          exact congrArg Sum.inr ((g 4 (by omega)).trans q3)), ?_⟩
        rw [if_pos (show nI 3 = 3 from rfl)]
        unfold mX8_changeOf
        by_cases zi : i = 0
        · subst zi
          rw [if_pos (show nI 0 = 0 from rfl), if_pos rfl]
        · rw [if_neg (nI_ne0 (by omega) (by omega)), if_neg zi]
          have ei : nI i - 1 = nI (i - 1) := by show nI i - nI 1 = _; rw [pk_sub (by omega)]
          dsimp only
          rw [ei, show row (mX8_keptAt (nI i) 1).toNatClampNeg = row (67 + 5 * i + 1) from f 1 (by omega), show mX8_keptAt (nI (i - 1)) 1 = nI (67 + 5 * (i - 1) + 1) from pkA (i - 1) 1, nI_clamp (by omega), pd_same, pd_comm]
      | 4, _ =>
        refine ⟨row (67 + 5 * i + 3), (by
          rw [if_neg (show ¬ nI 4 = 0 by decide), if_neg (show ¬ nI 4 = 1 by decide), if_neg (show ¬ nI 4 = 2 by decide), if_neg (show ¬ nI 4 = 3 by decide), if_pos (show nI 4 = 4 from rfl)]
          exact congrArg Sum.inr ((g 3 (by omega)).trans (q1 3 (by omega)))), ?_⟩
        rw [if_neg (show ¬ nI 4 = 3 by decide), if_pos (show nI 4 = 4 from rfl)]
        rw [show nI 4 - 1 = nI 3 from rfl, f 3 (by omega)]
      | 5, _ =>
        refine ⟨row (67 + 5 * i + 4), (by
          rw [if_neg (show ¬ nI 5 = 0 by decide), if_neg (show ¬ nI 5 = 1 by decide), if_neg (show ¬ nI 5 = 2 by decide), if_neg (show ¬ nI 5 = 3 by decide), if_neg (show ¬ nI 5 = 4 by decide), if_pos (show nI 5 = 5 from rfl)]
          exact congrArg Sum.inr ((g 5 (by omega)).trans q2)), ?_⟩
        rw [if_neg (show ¬ nI 5 = 3 by decide), if_neg (show ¬ nI 5 = 4 by decide), if_pos (show nI 5 = 5 from rfl)]
        rw [show nI 5 - 1 = nI 4 from rfl, f 4 (by omega)]
      | 6, _ =>
        refine ⟨nI m, (by
          rw [if_neg (show ¬ nI 6 = 0 by decide), if_neg (show ¬ nI 6 = 1 by decide), if_neg (show ¬ nI 6 = 2 by decide), if_neg (show ¬ nI 6 = 3 by decide), if_neg (show ¬ nI 6 = 4 by decide), if_neg (show ¬ nI 6 = 5 by decide), if_pos (show nI 6 = 6 from rfl)]
          exact congrArg Sum.inr ((g 6 (by omega)).trans q9)), ?_⟩
        rw [if_neg (show ¬ nI 6 = 3 by decide), if_neg (show ¬ nI 6 = 4 by decide), if_neg (show ¬ nI 6 = 5 by decide), if_pos (show nI 6 = 6 from rfl)]
        rw [show row (mX8_keptAt (nI i) 0).toNatClampNeg = row (67 + 5 * i + 0) from f 0 (by omega), Nat.add_zero, r_lowest n6 ⟨c8, c48⟩ hBl q8]
    · right; right
      rw [px_in0 (show (0 : Int64).toInt = 0 by decide) (show (6 : Int64).toInt = 6 by decide) h2, if_pos rfl]
      rw [if_neg (px_ne (n := 0) (by decide) (by omega)), if_neg (px_ne (n := 1) (by decide) (by omega)), if_neg (px_ne (n := 2) (by decide) (by omega)), if_neg (px_ne (n := 3) (by decide) (by omega)), if_neg (px_ne (n := 4) (by decide) (by omega)), if_neg (px_ne (n := 5) (by decide) (by omega)), if_neg (px_ne (n := 6) (by decide) (by omega))]
      exact ⟨rfl, rfl⟩
  · right; left
    rw [if_neg h1]
    exact ⟨rfl, rfl⟩
theorem P_least (hR : RR Bd K W C B set holds count free dirty kc kl qc ql told rt rc rl rs re rb te ca dr lo la lp row) : mX8_least rf ss sp ig lf ac row = (mX7_least set holds count free dirty kc kl qc ql told rt rc rl rs re rb te ca dr lo la lp, 0) := by
  have hk := RR_cnt hR
  unfold mX8_least mX7_least
  dsimp only
  rcases Nat.eq_zero_or_pos K with z | z
  · subst z
    rw [(R_least0 hR).1, (R_least0 hR).2, hk.1, if_neg (by decide), pg_out (Or.inl (by decide))]
  · obtain ⟨d, hd, e1, e2⟩ := R_least hR z
    rw [e1, e2, hk.1, if_pos (nI_pos' (by omega))]
    obtain ⟨⟨⟨⟨⟨s0, s1, s2⟩, s4, s5, s6, s7, s8⟩, s9, s10, s11, s12, s13, s14, s15⟩, ⟨⟨⟨n1, n2⟩, ⟨n3, n4⟩, ⟨n5, n6⟩, n7, n8⟩, w4, c8, c48⟩, hBl, hfr, hdi⟩, ⟨hKe, hQu, hNu⟩, hTo, hBd⟩ := hR
    rw [show mX8_keptAt (nI d) 0 = nI (67 + 5 * d + 0) from pkA d 0, nI_clamp (by omega), show mX1_get 336 kc (nI K) (nI d) 0 = kc (7 * d + 0) from pg_get (w := 0) (by decide) (by omega) hd (by omega), (hKe d hd).1 0 (by omega)]
theorem P_room {p0 : Int32} (hR : RR Bd K W C B set holds count free dirty kc kl qc ql told rt rc rl rs re rb te ca dr lo la lp row) : (∃ r, mX7_room set holds count free dirty kc kl qc ql told rt rc rl rs re rb te ca dr lo la lp p0 = Sum.inr r ∧ mX8_room rf ss sp ig lf ac row p0 = (r, 0)) ∨ (mX7_room set holds count free dirty kc kl qc ql told rt rc rl rs re rb te ca dr lo la lp p0 = Sum.inl (fxE 0) ∧ mX8_room rf ss sp ig lf ac row p0 = (0, 1)) := by
  have hc := R_count hR
  have l0 : (0 : Int32).toInt = 0 := by decide
  have l54 : (54 : Int32).toInt = 54 := by decide
  unfold mX7_room mX8_room
  rw [hc.1, hc.2]
  by_cases h1 : p0.toInt < 0
  · right
    rw [if_pos (show p0 < 0 by rw [fc_lt]; omega), px_in0 (show (0 : Int64).toInt = 0 by decide) (show (54 : Int64).toInt = 54 by decide) (by omega)]
    exact ⟨rfl, rfl⟩
  · rw [if_neg (show ¬ p0 < 0 by rw [fc_lt]; omega)]
    by_cases h2 : p0.toInt ≤ 54
    · left
      rw [if_pos (show p0 ≤ 54 by rw [fc_le]; omega), px_in1 (show (0 : Int64).toInt = 0 by decide) (show (54 : Int64).toInt = 54 by decide) (by omega)]
      dsimp only
      rw [if_neg px_10]
      exact ⟨_, rfl, rfl⟩
    · right
      rw [if_neg (show ¬ p0 ≤ 54 by rw [fc_le]; omega), px_in0 (show (0 : Int64).toInt = 0 by decide) (show (54 : Int64).toInt = 54 by decide) (by omega)]
      exact ⟨rfl, rfl⟩
end
