/-! PURE: a tick on both sides -/
theorem p45_fin {row r9 r : Nat → Int32} : (let row_5 := (upd r (4 : Int32).toNatClampNeg ((r (4 : Int32).toNatClampNeg) + 1))
    let row_6 := (upd row_5 (11 : Int32).toNatClampNeg ((row_5 (11 : Int32).toNatClampNeg) + 1))
    if (row_6 (11 : Int32).toNatClampNeg) < (row_6 (2 : Int32).toNatClampNeg) then
      (((r9 (16 : Int32).toNatClampNeg) - (row (16 : Int32).toNatClampNeg)), row_6)
    else
      let row_8 := mX8_endRound row_6
      (((r9 (16 : Int32).toNatClampNeg) - (row (16 : Int32).toNatClampNeg)), row_8)) = (r9 16 - row 16, pE r) := by
  simp only [pl_lit4, pl_lit11, pl_lit2, pl_lit16]
  simp (disch := omega) only [pu_ne, pu_eq']
  unfold pE
  by_cases c : r 11 + 1 < r 2
  · rw [if_pos c, if_neg (show ¬ r 2 ≤ r 11 + 1 by rw [fc_le]; rw [fc_lt] at c; omega)]
  · rw [if_neg c, if_pos (show r 2 ≤ r 11 + 1 by rw [fc_le]; rw [fc_lt] at c; omega)]
section
variable {Bd K W C B : Nat} {set holds : Nat → Int32} {count free dirty : Int32} {kc : Nat → Int32} {kl : Int32} {qc : Nat → Int32} {ql : Int32} {told : Nat → Int32} {rt rc rl rs re rb te ca dr lo la lp : Int32} {row : Nat → Int32}
theorem RR_cnt (hR : RR Bd K W C B set holds count free dirty kc kl qc ql told rt rc rl rs re rb te ca dr lo la lp row) : kl = nI K ∧ row 16 = nI K ∧ K ≤ 48 ∧ ql = nI W ∧ row 17 = nI W ∧ W ≤ 4 := by
  obtain ⟨⟨-, ⟨⟨⟨n1, n2⟩, ⟨n3, n4⟩, -⟩, w4, c8, c48⟩, -⟩, ⟨hKe, hQu, hNu⟩, -, -⟩ := hR
  have hK := RK48 hKe hNu
  exact ⟨n1, n2, by omega, n3, n4, w4⟩
theorem R_makeRoom (row0 r9 : Nat → Int32) : ∀ (a b x1 K : Nat) (dirty : Int32) (holds : Nat → Int32) (kc : Nat → Int32) (dr : Int32) (row : Nat → Int32), RR Bd K W C B set holds count free dirty kc (nI K) qc ql told rt rc rl rs re rb te ca dr lo la lp row → x1 + K ≤ 48 → K < a → K < b →
    ∃ K' dr' dirty' holds' kc' row', mX5_makeRoomForFirst_L2 set count free qc ql told rt rc rl rs re rb te ca lo la lp a (nI x1) dirty holds (nI K) kc dr = (dr', dirty', holds', nI K', kc') ∧ mX8_tick_L45 row0 r9 b row = (r9 16 - row0 16, pE row') ∧ K' ≤ K ∧
      RR Bd K' W C B set holds' count free dirty' kc' (nI K') qc ql told rt rc rl rs re rb te ca dr' lo la lp row' := by
  intro a
  induction a with
  | zero => intro b x1 K dirty holds kc dr row hR h1 h2; omega
  | succ a ih =>
    intro b x1 K dirty holds kc dr row hR h1 h2 h3
    obtain ⟨b, rfl⟩ : ∃ c, b = c + 1 := ⟨b - 1, by omega⟩
    obtain ⟨-, n2, -, -, -, -⟩ := RR_cnt hR
    rw [mX5_makeRoomForFirst_L2_s, mX5_makeRoomForFirst_S2, mX8_tick_L45_s, mX8_tick_S45]
    have hlk := R_lacks hR
    by_cases hK : K = 0
    · subst hK
      refine ⟨0, dr, dirty, holds, kc, row, ?_, ?_, Nat.le_refl _, hR⟩
      · split
        · rfl
        · rw [if_pos (show nI 0 ≤ 0 by decide)]
      · dsimp only
        by_cases c : mX8_lacks row = 0
        · rw [if_pos c]; exact p45_fin
        · rw [if_neg c, pl_lit16, n2, if_pos (show nI 0 ≤ 0 by decide)]
          have := p45_fin (row := row0) (r9 := r9) (r := row)
          rw [pl_lit16] at this
          exact this
    · rw [if_neg (show ¬ (48 : Int32) ≤ nI x1 from nI_ge (show x1 < 48 by omega) (by decide)), if_neg (nI_nle (by omega) (by omega))]
      rw [hlk]
      dsimp only
      by_cases c : mX8_lacks row = 0
      · rw [if_pos c, if_pos c]
        exact ⟨K, dr, dirty, holds, kc, row, rfl, p45_fin, Nat.le_refl _, hR⟩
      · obtain ⟨d, hd, e1, e2⟩ := R_least hR (by omega)
        obtain ⟨dirty', holds', kc', row', f1, f2, hR'⟩ := R_drop hR hd
        have hk := RR_cnt hR'
        obtain ⟨K', dr2, dirty2, holds2, kc2, row2, g1, g2, g3, g4⟩ := ih b (x1 + 1) (K - 1) dirty' holds' kc' (dr + 1) row' hR' (by omega) (by omega) (by omega)
        refine ⟨K', dr2, dirty2, holds2, kc2, row2, ?_, ?_, by omega, g4⟩
        · rw [if_neg c, e1, f1]
          dsimp only
          rw [nI_1]
          exact g1
        · rw [if_neg c, if_neg (by rw [pl_lit16, n2]; exact nI_nle (by omega) (by omega)), e2, f2]
          exact g2
theorem R_storeWaiting (row0 : Nat → Int32) (hB : Bd < 1000000000) : ∀ (a b x1 K W : Nat) (free : Int32) (holds kc qc : Nat → Int32) (rs la : Int32) (row : Nat → Int32), RR Bd K W C B set holds count free dirty kc (nI K) qc (nI W) told rt rc rl rs re rb te ca dr lo la lp row → x1 + W ≤ 4 → W < a → W < b →
    ∃ n la' free' holds' kc' W' qc' rs' row', mX5_storeWaiting_L2 set count dirty told rt rc rl re rb te ca dr lo lp a (nI x1) free holds (nI K) kc (nI W) qc rs la = (nI (x1 + n), la', free', holds', nI (K + n), kc', nI W', qc', rs') ∧ mX8_tick_L9 row0 b row = mX8_tick_L45 row0 row' 49 row' ∧ W' + n = W ∧
      RR Bd (K + n) W' C B set holds' count free' dirty kc' (nI (K + n)) qc' (nI W') told rt rc rl rs' re rb te ca dr lo la' lp row' := by
  intro a
  induction a with
  | zero => intro b x1 K W free holds kc qc rs la row hR h1 h2; omega
  | succ a ih =>
    intro b x1 K W free holds kc qc rs la row hR h1 h2 h3
    obtain ⟨b, rfl⟩ : ∃ c, b = c + 1 := ⟨b - 1, by omega⟩
    obtain ⟨-, n2, -, -, n4, -⟩ := RR_cnt hR
    rw [mX5_storeWaiting_L2_s, mX5_storeWaiting_S2, mX8_tick_L9_s, mX8_tick_S9]
    by_cases hW : W = 0
    · subst hW
      refine ⟨0, la, free, holds, kc, 0, qc, rs, row, ?_, ?_, rfl, hR⟩
      · split
        · rfl
        · rw [if_pos (show nI 0 ≤ 0 by decide)]; rfl
      · rw [if_pos (by rw [pl_lit17, n4]; decide)]
    · have hc := R_count hR
      have a2 : mX1_get 28 qc (nI W) 0 2 = qc 2 := pg_get (a := 0) (w := 2) (by decide) (by omega) (by omega) (by omega)
      have e5 : mX8_waitAt 0 2 = nI 309 := pwA 0 2
      have hR1 := hR
      obtain ⟨⟨-, ⟨-, w4, c8, c48⟩, -, hfr, -⟩, ⟨-, hQu, -⟩, -, -⟩ := hR1
      obtain ⟨q1, ⟨n, q2, q3, q4⟩, -, -⟩ := hQu 0 (by omega)
      have hn : row 309 = nI n := q2
      have q5 : qc 2 = row 309 := q1 2 (by omega)
      have hcl := pcnt_le holds (-1) C
      rw [if_neg (show ¬ (4 : Int32) ≤ nI x1 from nI_ge (show x1 < 4 by omega) (by decide)), if_neg (nI_nle (by omega) (by omega)), if_neg (show ¬ row (17 : Int32).toNatClampNeg ≤ 0 by rw [pl_lit17, n4]; exact nI_nle (by omega) (by omega)), a2, q5, hc.1, e5]
      dsimp only
      rw [nI_clamp (by omega)]
      by_cases c : free < row 309
      · rw [if_pos c, if_pos c]
        exact ⟨0, la, free, holds, kc, W, qc, rs, row, rfl, rfl, rfl, hR⟩
      · rw [if_neg c, if_neg c]
        have hfree : n ≤ pcnt holds (-1) C := by
          rcases Nat.lt_or_ge (pcnt holds (-1) C) n with z | z
          · rw [hn, hfr] at c
            exact absurd (nI_lt z (by omega)) c
          · exact z
        obtain ⟨la', free', holds', kc', qc', row', f1, f2, hR'⟩ := R_store hR hB (by omega) hn hfree
        obtain ⟨m, la2, free2, holds2, kc2, W2, qc2, rs2, row2, g1, g2, g3, g4⟩ := ih b (x1 + 1) (K + 1) (W - 1) free' holds' kc' qc' (rs + 1) la' row' hR' (by omega) (by omega) (by omega)
        have e6 : K + 1 + m = K + (m + 1) := by omega
        have e7 : x1 + 1 + m = x1 + (m + 1) := by omega
        rw [e6] at g1 g4
        rw [e7] at g1
        refine ⟨m + 1, la2, free2, holds2, kc2, W2, qc2, rs2, row2, ?_, ?_, by omega, g4⟩
        · rw [f1]
          dsimp only
          rw [nI_1]
          exact g1
        · rw [f2]
          exact g2
end
