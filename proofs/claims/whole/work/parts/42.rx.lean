/-! PURE: rows that belong to some state of the class; what the reference's tick may rest on -/
def RXn (m : Nat) (row : Nat → Int32) : Prop := ∃ Bd K W C B : Nat, Bd + m < 1000000000 ∧ ∃ (set holds : Nat → Int32) (count free dirty : Int32) (kc : Nat → Int32) (kl : Int32) (qc : Nat → Int32) (ql : Int32) (told : Nat → Int32) (rt rc rl rs re rb te ca dr lo la lp : Int32),
  RR Bd K W C B set holds count free dirty kc kl qc ql told rt rc rl rs re rb te ca dr lo la lp row
theorem RXn.mono {m n : Nat} {row : Nat → Int32} (h : RXn m row) (q : n ≤ m) : RXn n row := by
  obtain ⟨Bd, K, W, C, B, h1, h2⟩ := h
  exact ⟨Bd, K, W, C, B, by omega, h2⟩
/-- its counts -/
theorem RX_K {m : Nat} {row : Nat → Int32} (h : RXn m row) : (8 ≤ (row (3 : Int32).toNatClampNeg).toInt ∧ (row (3 : Int32).toNatClampNeg).toInt ≤ 48) ∧ (0 ≤ (row (16 : Int32).toNatClampNeg).toInt ∧ (row (16 : Int32).toNatClampNeg).toInt ≤ 48) ∧ (0 ≤ (row (17 : Int32).toNatClampNeg).toInt ∧ (row (17 : Int32).toNatClampNeg).toInt ≤ 4) := by
  obtain ⟨Bd, K, W, C, B, h1, set, holds, count, free, dirty, kc, kl, qc, ql, told, rt, rc, rl, rs, re, rb, te, ca, dr, lo, la, lp, hR⟩ := h
  obtain ⟨⟨-, ⟨⟨⟨n1, n2⟩, ⟨n3, n4⟩, ⟨n5, n6⟩, n7, n8⟩, w4, c8, c48⟩, -⟩, ⟨hKe, -, hNu⟩, -, -⟩ := hR
  have hK := RK48 hKe hNu
  rw [pl_3, pl_lit16, pl_lit17, n2, n4, n6, fc_nI (by omega), fc_nI (by omega), fc_nI (by omega)]
  omega
theorem RX_sweep {m : Nat} {row : Nat → Int32} (h : RXn m row) : RXn m (mX8_sweep row) := by
  obtain ⟨Bd, K, W, C, B, h1, set, holds, count, free, dirty, kc, kl, qc, ql, told, rt, rc, rl, rs, re, rb, te, ca, dr, lo, la, lp, hR⟩ := h
  obtain ⟨f', d', h', row', -, e2, e3⟩ := R_clean hR
  rw [e2]
  exact ⟨Bd, K, W, C, B, h1, _, _, _, _, _, _, _, _, _, _, _, _, _, _, _, _, _, _, _, _, _, _, e3⟩
theorem RX_store {m : Nat} {row row' : Nat → Int32} {c w : Int32} (h : RXn m row) (hc : mX8_count row (-1) = c) (hw : mX8_waitAt 0 2 = w) (h17 : ¬ row (17 : Int32).toNatClampNeg ≤ 0) (hle : ¬ c < row w.toNatClampNeg) (hs : mX8_store row = row') :
    (row (16 : Int32).toNatClampNeg).toInt ≤ 47 ∧ 1 ≤ (row (17 : Int32).toNatClampNeg).toInt ∧ RXn m row' ∧ (row' (17 : Int32).toNatClampNeg).toInt + 1 = (row (17 : Int32).toNatClampNeg).toInt := by
  obtain ⟨Bd, K, W, C, B, h1, set, holds, count, free, dirty, kc, kl, qc, ql, told, rt, rc, rl, rs, re, rb, te, ca, dr, lo, la, lp, hR⟩ := h
  have hcc := R_count hR
  have hR0 := hR
  obtain ⟨⟨-, ⟨⟨⟨n1, n2⟩, ⟨n3, n4⟩, ⟨n5, n6⟩, n7, n8⟩, w4, c8, c48⟩, hBl, hf, -⟩, ⟨hKe, hQu, hNu⟩, -, -⟩ := hR
  have hW : 1 ≤ W := by
    rcases Nat.eq_zero_or_pos W with z | z
    · subst z
      rw [pl_lit17, n4] at h17
      exact absurd (show nI 0 ≤ 0 by decide) h17
    · exact z
  have e5 : mX8_waitAt 0 2 = nI 309 := pwA 0 2
  rw [e5] at hw
  rw [← hw, ← hc, hcc.1, hf, nI_clamp (by omega)] at hle
  obtain ⟨-, ⟨n, g2, g3, g4⟩, -, -⟩ := hQu 0 (by omega)
  have hn : row 309 = nI n := g2
  have hcl := pcnt_le holds (-1) C
  have hfree : n ≤ pcnt holds (-1) C := by
    rcases Nat.lt_or_ge (pcnt holds (-1) C) n with z | z
    · rw [hn] at hle
      exact absurd (nI_lt z (by omega)) hle
    · exact z
  have hK := RK47 hKe hNu (by omega)
  obtain ⟨la', f', h', kc', qc', row2, -, e2, e3⟩ := R_store hR0 (by omega) hW hn hfree
  rw [hs] at e2
  subst e2
  have e4 := e3
  obtain ⟨⟨-, ⟨⟨-, ⟨-, m4⟩, -⟩, -⟩, -⟩, -⟩ := e4
  rw [pl_lit16, pl_lit17, n2, n4, m4, fc_nI (by omega), fc_nI (by omega), fc_nI (by omega)]
  exact ⟨by omega, by omega, ⟨Bd, K + 1, W - 1, C, B, h1, _, _, _, _, _, _, _, _, _, _, _, _, _, _, _, _, _, _, _, _, _, _, e3⟩, by omega⟩
theorem RX_drop {m : Nat} {row row' : Nat → Int32} {d r : Int32} (h : RXn m row) (h16 : ¬ row (16 : Int32).toNatClampNeg ≤ 0) (hl : mX8_leastOf row = d) (hs : mX8_dropIn row d = (r, row')) :
    (0 ≤ d.toInt ∧ d.toInt < (row (16 : Int32).toNatClampNeg).toInt) ∧ RXn m row' ∧ (row' (16 : Int32).toNatClampNeg).toInt + 1 = (row (16 : Int32).toNatClampNeg).toInt := by
  obtain ⟨Bd, K, W, C, B, h1, set, holds, count, free, dirty, kc, kl, qc, ql, told, rt, rc, rl, rs, re, rb, te, ca, dr, lo, la, lp, hR⟩ := h
  have hR0 := hR
  obtain ⟨⟨-, ⟨⟨⟨n1, n2⟩, -⟩, w4, c8, c48⟩, -⟩, ⟨hKe, hQu, hNu⟩, -, -⟩ := hR
  have hK := RK48 hKe hNu
  have hK0 : 0 < K := by
    rcases Nat.eq_zero_or_pos K with z | z
    · subst z
      rw [pl_lit16, n2] at h16
      exact absurd (show nI 0 ≤ 0 by decide) h16
    · exact z
  obtain ⟨x, hx, -, e2⟩ := R_least hR0 hK0
  rw [e2] at hl
  subst hl
  obtain ⟨d', h', kc', row2, -, e3, e4⟩ := R_drop hR0 hx
  rw [hs] at e3
  have e5 := congrArg Prod.snd e3
  dsimp only at e5
  subst e5
  have e6 := e4
  obtain ⟨⟨-, ⟨⟨⟨-, m2⟩, -⟩, -⟩, -⟩, -⟩ := e6
  rw [pl_lit16, n2, m2, fc_nI (by omega), fc_nI (by omega), fc_nI (by omega)]
  exact ⟨by omega, ⟨Bd, K - 1, W, C, B, h1, _, _, _, _, _, _, _, _, _, _, _, _, _, _, _, _, _, _, _, _, _, _, e4⟩, by omega⟩
theorem RX_least {m : Nat} {row : Nat → Int32} {d : Int32} (h : RXn m row) (h16 : ¬ row (16 : Int32).toNatClampNeg ≤ 0) (hl : mX8_leastOf row = d) : 0 ≤ d.toInt ∧ d.toInt < (row (16 : Int32).toNatClampNeg).toInt :=
  (RX_drop (r := (mX8_dropIn row d).1) (row' := (mX8_dropIn row d).2) h h16 hl rfl).1
theorem RX_end {m : Nat} {row : Nat → Int32} (h : RXn (m + 1) row) : RXn m (pE row) := by
  obtain ⟨Bd, K, W, C, B, h1, set, holds, count, free, dirty, kc, kl, qc, ql, told, rt, rc, rl, rs, re, rb, te, ca, dr, lo, la, lp, hR⟩ := h
  obtain ⟨rt', rc', rl', rs', re', rb', told', B', -, e⟩ := R_endTick hR (by omega)
  exact ⟨Bd + 1, K, W, C, B', by omega, _, _, _, _, _, _, _, _, _, _, _, _, _, _, _, _, _, _, _, _, _, _, e⟩
