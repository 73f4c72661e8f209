/-! PURE: scripts, on both sides -/
section
variable {Bd K W C B : Nat} {set holds : Nat → Int32} {count free dirty : Int32} {kc : Nat → Int32} {kl : Int32} {qc : Nat → Int32} {ql : Int32} {told : Nat → Int32} {rt rc rl rs re rb te ca dr lo la lp : Int32} {row : Nat → Int32}
variable {rf ss sp ig lf ac : Int32}
variable {gset : Nat → Int32} {gholds : Nat → Int32} {gcount : Int32} {gfree : Int32} {gdirty : Int32} {gkc : Nat → Int32} {gkl : Int32} {gqc : Nat → Int32} {gql : Int32} {gtold : Nat → Int32} {grt : Int32} {grc : Int32} {grl : Int32} {grs : Int32} {gre : Int32} {grb : Int32} {gte : Int32} {gca : Int32} {gdr : Int32} {glo : Int32} {gla : Int32} {glp : Int32} {trow : Nat → Int32}
theorem px_holds5 {v : Int32} : mX7_holds set holds count free dirty kc kl qc ql told rt rc rl rs re rb te ca dr lo la lp 5 v = if v ≤ 99 then (if kl < v then 0 else 1) else 0 := by
  unfold mX7_holds
  rw [if_neg (by decide)]
  by_cases c : v ≤ 99
  · rw [if_pos c, if_pos c, if_pos rfl]
  · rw [if_neg c, if_neg c]
theorem px_holds6 {v : Int32} : mX7_holds set holds count free dirty kc kl qc ql told rt rc rl rs re rb te ca dr lo la lp 6 v = if v ≤ 99 then (if v < dr then 0 else 1) else 0 := by
  unfold mX7_holds
  rw [if_neg (by decide)]
  by_cases c : v ≤ 99
  · rw [if_pos c, if_pos c, if_neg (show ¬ (6 : Int32) = 5 by decide), if_pos rfl]
  · rw [if_neg c, if_neg c]
theorem px_holds7 {v : Int32} : mX7_holds set holds count free dirty kc kl qc ql told rt rc rl rs re rb te ca dr lo la lp 7 v = if v ≤ 99 then (if v < rb then 0 else 1) else 0 := by
  unfold mX7_holds
  rw [if_neg (by decide)]
  by_cases c : v ≤ 99
  · rw [if_pos c, if_pos c, if_neg (show ¬ (7 : Int32) = 5 by decide), if_neg (show ¬ (7 : Int32) = 6 by decide), if_pos rfl]
  · rw [if_neg c, if_neg c]
theorem px_holds8 {v : Int32} : mX7_holds set holds count free dirty kc kl qc ql told rt rc rl rs re rb te ca dr lo la lp 8 v = if v ≤ 99 then (if free < v then 0 else 1) else 0 := by
  unfold mX7_holds
  rw [if_neg (by decide)]
  by_cases c : v ≤ 99
  · rw [if_pos c, if_pos c, if_neg (show ¬ (8 : Int32) = 5 by decide), if_neg (show ¬ (8 : Int32) = 6 by decide), if_neg (show ¬ (8 : Int32) = 7 by decide), if_pos rfl]
  · rw [if_neg c, if_neg c]
theorem px_holds9 {v : Int32} : mX7_holds set holds count free dirty kc kl qc ql told rt rc rl rs re rb te ca dr lo la lp 9 v = if v ≤ 9999 then mX5_keeps set holds count free dirty kc kl qc ql told rt rc rl rs re rb te ca dr lo la lp v else 0 := by
  unfold mX7_holds
  rw [if_pos rfl]
  by_cases c : v ≤ 9999
  · rw [if_pos c, if_pos c, if_neg (by decide), if_neg (by decide), if_neg (by decide), if_neg (by decide), if_pos rfl]
  · rw [if_neg c, if_neg c]
theorem P_succ {g : Int32} (hR : RR Bd K W C B set holds count free dirty kc kl qc ql told rt rc rl rs re rb te ca dr lo la lp row) (hB : Bd + 60 < 1000000000) (hg : 0 ≤ g.toInt ∧ g.toInt < 10000000) :
    ∃ (r : Int32) (te' : Int32) (ca' : Int32) (dr' : Int32) (lo' : Int32) (la' : Int32) (lp' : Int32) (set' : Nat → Int32) (free' : Int32) (dirty' : Int32) (holds' : Nat → Int32) (kl' : Int32) (kc' : Nat → Int32) (ql' : Int32) (qc' : Nat → Int32) (rt' : Int32) (rc' : Int32) (rl' : Int32) (rs' : Int32) (re' : Int32) (rb' : Int32) (told' : Nat → Int32) (K' W' B' : Nat) (row' : Nat → Int32), mX7_succeeds set holds count free dirty kc kl qc ql told rt rc rl rs re rb te ca dr lo la lp g = (r, te', ca', dr', lo', la', lp', set', free', dirty', holds', kl', kc', ql', qc', rt', rc', rl', rs', re', rb', told') ∧ mX8_does rf ss sp ig lf ac row g = (r, row') ∧ (r = 0 ∨ r = 1) ∧ RR (Bd + 51) K' W' C B' set' holds' count free' dirty' kc' kl' qc' ql' told' rt' rc' rl' rs' re' rb' te' ca' dr' lo' la' lp' row' := by
  have hw : (g / 1000000).toInt = g.toInt / 1000000 := by
    have := fc_divk (x := g) (k := 1000000) (n := 1000000) (by decide) (by decide)
    rw [Int.tdiv_eq_ediv_of_nonneg hg.1] at this
    exact this
  have hr : (g - g / 1000000 * 1000000).toInt = g.toInt % 1000000 := by
    rw [fc_remk (k := 1000000) (n := 1000000) (by decide) (by decide) (by decide), Int.tmod_eq_emod_of_nonneg hg.1]
  have hn : (g - g / 100 * 100).toInt = g.toInt % 100 := by
    rw [fc_remk (k := 100) (n := 100) (by decide) (by decide) (by decide), Int.tmod_eq_emod_of_nonneg hg.1]
  have hm : RR (Bd + 51) K W C B set holds count free dirty kc kl qc ql told rt rc rl rs re rb te ca dr lo la lp row := hR.mono (by omega)
  have hk := RR_cnt hR
  unfold mX7_succeeds mX8_does
  generalize g - g / 100 * 100 = nn at hn ⊢
  generalize g - g / 1000000 * 1000000 = rest at hr ⊢
  generalize g / 1000000 = w at hw ⊢
  dsimp only
  have l100 : (100 : Int32).toInt = 100 := by decide
  have l99 : (99 : Int32).toInt = 99 := by decide
  have eq100 : ¬ (100 : Int32) ≤ rest → nn = rest := fun h => by
    rw [fc_le] at h
    rw [fc_eq]
    omega
  by_cases w1 : w = 1
  · subst w1
    rw [if_pos rfl]
    have w4 := hk.2.2.2.2.2
    by_cases hW : W < 4
    · obtain ⟨qc', row2, g1, g2, g3⟩ := R_receive hR hW (p0 := rest) (by omega) (by omega)
      rw [g1]
      refine ⟨1, te, ca + 1, dr, lo, la, rest, set, free, dirty, holds, kl, kc, nI (W + 1), qc', rt, rc + 1, rl, rs, re, rb, told, K, (W + 1), B, row2, rfl, ?_, Or.inr rfl, g3.mono (by omega)⟩
      by_cases h : (100 : Int32) ≤ rest
      · rw [if_pos h, if_pos rfl, g2]
      · rw [if_neg h, if_pos rfl, g2]
    · obtain rfl : W = 4 := by omega
      obtain ⟨g1, row2, g2, g3⟩ := R_receive_full hR (p0 := rest) (by omega) (by omega)
      rw [g1]
      refine ⟨1, te, ca + 1, dr, lo + 1, la, rest, set, free, dirty, holds, kl, kc, ql, qc, rt, rc + 1, rl + 1, rs, re, rb, told, K, 4, B, row2, rfl, ?_, Or.inr rfl, g3.mono (by omega)⟩
      by_cases h : (100 : Int32) ≤ rest
      · rw [if_pos h, if_pos rfl, g2]
      · rw [if_neg h, if_pos rfl, g2]
  rw [if_neg w1]
  by_cases w2 : w = 2
  · subst w2
    rw [if_pos rfl, px_isTicks7]
    by_cases c : 1 ≤ rest.toInt ∧ rest.toInt ≤ 50
    · rw [if_pos c, if_neg px_10]
      obtain ⟨K', W', B', r, free', dirty', holds', kl', kc', ql', qc', rt', rc', rl', rs', re', rb', told', te', dr', la', row2, g1, g2, g3⟩ := R_pass hR c.2 (by omega)
      rw [g1]
      refine ⟨1, te', ca, dr', lo, la', lp, set, free', dirty', holds', kl', kc', ql', qc', rt', rc', rl', rs', re', rb', told', K', W', B', row2, rfl, ?_, Or.inr rfl, g3⟩
      have h : ¬ (100 : Int32) ≤ rest := by rw [fc_le]; omega
      rw [if_neg h, if_neg (show ¬ (2 : Int32) = 1 by decide), if_pos rfl, eq100 h]
      unfold mX8_goes
      rw [px_isTicks8, if_pos c]
      dsimp only
      rw [if_neg px_10, g2]
      dsimp only
      rw [if_neg px_10]
    · rw [if_neg c, if_pos rfl, px_holds0 (by decide) (by decide) (by decide) (by decide) (by decide)]
      refine ⟨0, te, ca, dr, lo, la, lp, set, free, dirty, holds, kl, kc, ql, qc, rt, rc, rl, rs, re, rb, told, K, W, B, row, rfl, ?_, Or.inl rfl, hm⟩
      by_cases h : (100 : Int32) ≤ rest
      · rw [if_pos h, if_neg (show ¬ (2 : Int32) = 1 by decide), if_pos rfl]
      · rw [if_neg h, if_neg (show ¬ (2 : Int32) = 1 by decide), if_pos rfl, eq100 h]
        unfold mX8_goes
        rw [px_isTicks8, if_neg c]
        dsimp only
        rw [if_pos rfl]
        dsimp only
        rw [if_pos rfl]
  rw [if_neg w2]
  by_cases w3 : w = 3
  · subst w3
    rw [if_pos rfl, show mX1_has kl rest = if 0 ≤ rest.toInt ∧ rest.toInt < K then 1 else 0 by rw [hk.1]; exact px_has (by omega)]
    have k48 := hk.2.2.1
    by_cases c : 0 ≤ rest.toInt ∧ rest.toInt < K
    · rw [if_pos c, if_neg px_10]
      obtain ⟨e, -, z⟩ := fx_nn c.1
      obtain ⟨d', h9, kc', row2, g1, g2, g3⟩ := R_drop hR (show rest.toNatClampNeg < K by omega)
      rw [← e] at g1 g2
      rw [g1]
      refine ⟨1, te, ca, dr + 1, lo, la, lp, set, free, d', h9, nI (K - 1), kc', ql, qc, rt, rc, rl, rs, re, rb, told, (K - 1), W, B, row2, rfl, ?_, Or.inr rfl, g3.mono (by omega)⟩
      have h : ¬ (100 : Int32) ≤ rest := by rw [fc_le]; omega
      rw [if_neg h, if_neg (show ¬ (3 : Int32) = 1 by decide), if_neg (show ¬ (3 : Int32) = 2 by decide), if_pos rfl, eq100 h]
      unfold mX8_dropsOne
      rw [pl_lit16, hk.2.1, if_pos (show rest < nI K by rw [fc_lt, fc_nI (by omega)]; omega), g2]
      dsimp only
      rw [if_neg px_10]
    · rw [if_neg c, if_pos rfl, px_holds0 (by decide) (by decide) (by decide) (by decide) (by decide)]
      refine ⟨0, te, ca, dr, lo, la, lp, set, free, dirty, holds, kl, kc, ql, qc, rt, rc, rl, rs, re, rb, told, K, W, B, row, rfl, ?_, Or.inl rfl, hm⟩
      by_cases h : (100 : Int32) ≤ rest
      · rw [if_pos h, if_neg (show ¬ (3 : Int32) = 1 by decide), if_neg (show ¬ (3 : Int32) = 2 by decide), if_pos rfl]
      · rw [if_neg h, if_neg (show ¬ (3 : Int32) = 1 by decide), if_neg (show ¬ (3 : Int32) = 2 by decide), if_pos rfl, eq100 h]
        unfold mX8_dropsOne
        rw [pl_lit16, hk.2.1, if_neg (show ¬ rest < nI K by rw [fc_lt, fc_nI (by omega)]; omega)]
        dsimp only
        rw [if_pos rfl]
  rw [if_neg w3]
  by_cases w4 : w = 4
  · subst w4
    rw [if_pos rfl]
    have ha : (rest / 100000).toInt = rest.toInt / 100000 := by
      have := fc_divk (x := rest) (k := 100000) (n := 100000) (by decide) (by decide)
      rw [Int.tdiv_eq_ediv_of_nonneg (by omega)] at this
      exact this
    have hv : (rest - rest / 100000 * 100000).toInt = rest.toInt % 100000 := by
      rw [fc_remk (k := 100000) (n := 100000) (by decide) (by decide) (by decide), Int.tmod_eq_emod_of_nonneg (by omega)]
    have hc : (rest / 100).toInt = rest.toInt / 100 := by
      have := fc_divk (x := rest) (k := 100) (n := 100) (by decide) (by decide)
      rw [Int.tdiv_eq_ediv_of_nonneg (by omega)] at this
      exact this
    have hd : ((rest / 100) - (rest / 100) / 1000 * 1000).toInt = rest.toInt / 100 % 1000 := by
      rw [fc_remk (k := 1000) (n := 1000) (by decide) (by decide) (by decide), Int.tmod_eq_emod_of_nonneg (by omega), hc]
    have l0 : (0 : Int32).toInt = 0 := by decide
    generalize (rest / 100) - (rest / 100) / 1000 * 1000 = cc at hd ⊢
    generalize rest - rest / 100000 * 100000 = v at hv ⊢
    generalize rest / 100000 = a at ha ⊢
    rw [px_isSet]
    by_cases c : mX8_isSetting a v = 0
    · rw [if_pos c, px_holds0 (by decide) (by decide) (by decide) (by decide) (by decide)]
      refine ⟨0, te, ca, dr, lo, la, lp, set, free, dirty, holds, kl, kc, ql, qc, rt, rc, rl, rs, re, rb, told, K, W, B, row, rfl, ?_, Or.inl rfl, hm⟩
      have fin : (if cc = 0 then (match mX8_sets rf ss sp ig lf ac row a nn with | (r_10, trow_10) => if r_10 = 0 then ((0 : Int32), trow_10) else (1, trow_10)) else (0, row)) = (0, row) := by
        by_cases q : cc = 0
        · rw [if_pos q]
          have en : nn = v := by
            rw [fc_eq] at q ⊢
            omega
          unfold mX8_sets
          rw [en, c]
          dsimp only
          rw [if_pos rfl]
          dsimp only
          rw [if_pos rfl]
        · rw [if_neg q]
      by_cases h : (100 : Int32) ≤ rest
      · rw [if_pos h, if_neg (show ¬ (4 : Int32) = 1 by decide), if_neg (show ¬ (4 : Int32) = 2 by decide), if_neg (show ¬ (4 : Int32) = 3 by decide), if_pos rfl]; exact fin
      · rw [if_neg h, if_neg (show ¬ (4 : Int32) = 1 by decide), if_neg (show ¬ (4 : Int32) = 2 by decide), if_neg (show ¬ (4 : Int32) = 3 by decide), if_pos rfl]; exact fin
    · rw [if_neg c]
      have hs := (fx_isSet8v (w := a) (v := v) rfl).resolve_left c
      have en : nn = v := by
        rw [fc_eq]
        omega
      have q : cc = 0 := by
        rw [fc_eq]
        omega
      obtain ⟨wn, hwn, ewn, hvn⟩ : ∃ wn : Nat, wn < 3 ∧ a = nI wn ∧ (wn = 0 → ∃ p : Nat, p < 1000 ∧ v = nI p) := by
        rcases hs with ⟨q, q1, q2⟩ | ⟨q, q1, q2⟩ | ⟨q, q1, q2⟩
        · obtain ⟨e9, -, z9⟩ := fx_nn q1
          exact ⟨0, by omega, q, fun _ => ⟨v.toNatClampNeg, by omega, e9⟩⟩
        · exact ⟨1, by omega, q, fun z => absurd z (by decide)⟩
        · exact ⟨2, by omega, q, fun z => absurd z (by decide)⟩
      obtain ⟨g1, g2⟩ := R_set (w := wn) (v := v) hR hwn hvn
      rw [← ewn] at g1
      rw [g1]
      refine ⟨1, te, ca, dr, lo, la, lp, upd set wn v, free, dirty, holds, kl, kc, ql, qc, rt, rc, rl, rs, re, rb, told, K, W, B, (upd row wn v), rfl, ?_, Or.inr rfl, g2.mono (by omega)⟩
      have fin : (if cc = 0 then (match mX8_sets rf ss sp ig lf ac row a nn with | (r_10, trow_10) => if r_10 = 0 then ((0 : Int32), trow_10) else (1, trow_10)) else (0, row)) = (1, upd row wn v) := by
        rw [if_pos q]
        unfold mX8_sets
        rw [en]
        dsimp only
        rw [if_neg c]
        dsimp only
        rw [if_neg px_10, ewn, nI_clamp (by omega)]
      by_cases h : (100 : Int32) ≤ rest
      · rw [if_pos h, if_neg (show ¬ (4 : Int32) = 1 by decide), if_neg (show ¬ (4 : Int32) = 2 by decide), if_neg (show ¬ (4 : Int32) = 3 by decide), if_pos rfl]; exact fin
      · rw [if_neg h, if_neg (show ¬ (4 : Int32) = 1 by decide), if_neg (show ¬ (4 : Int32) = 2 by decide), if_neg (show ¬ (4 : Int32) = 3 by decide), if_pos rfl]; exact fin
  rw [if_neg w4]
  by_cases w5 : w = 5
  · subst w5
    have e9 : row (16 : Int32).toNatClampNeg = kl := by rw [pl_lit16, hk.2.1, hk.1]
    rw [px_holds5, e9]
    by_cases h : (100 : Int32) ≤ rest
    · rw [if_neg (show ¬ rest ≤ 99 by rw [fc_le] at h ⊢; omega), if_pos h, if_neg (show ¬ (5 : Int32) = 1 by decide), if_neg (show ¬ (5 : Int32) = 2 by decide), if_neg (show ¬ (5 : Int32) = 3 by decide), if_neg (show ¬ (5 : Int32) = 4 by decide), if_pos rfl]
      exact ⟨0, te, ca, dr, lo, la, lp, set, free, dirty, holds, kl, kc, ql, qc, rt, rc, rl, rs, re, rb, told, K, W, B, row, rfl, rfl, Or.inl rfl, hm⟩
    · rw [if_pos (show rest ≤ 99 by rw [fc_le] at h ⊢; omega), if_neg h, if_neg (show ¬ (5 : Int32) = 1 by decide), if_neg (show ¬ (5 : Int32) = 2 by decide), if_neg (show ¬ (5 : Int32) = 3 by decide), if_neg (show ¬ (5 : Int32) = 4 by decide), if_pos rfl, eq100 h]
      by_cases q : kl < rest
      · rw [if_pos q, if_pos q]
        exact ⟨0, te, ca, dr, lo, la, lp, set, free, dirty, holds, kl, kc, ql, qc, rt, rc, rl, rs, re, rb, told, K, W, B, row, rfl, rfl, Or.inl rfl, hm⟩
      · rw [if_neg q, if_neg q]
        exact ⟨1, te, ca, dr, lo, la, lp, set, free, dirty, holds, kl, kc, ql, qc, rt, rc, rl, rs, re, rb, told, K, W, B, row, rfl, rfl, Or.inr rfl, hm⟩
  by_cases w6 : w = 6
  · subst w6
    have e9 : row (6 : Int32).toNatClampNeg = dr := by rw [pl_lit6]; exact hR.1.1.1.2.2.2.1.symm
    rw [px_holds6, e9]
    by_cases h : (100 : Int32) ≤ rest
    · rw [if_neg (show ¬ rest ≤ 99 by rw [fc_le] at h ⊢; omega), if_pos h, if_neg (show ¬ (6 : Int32) = 1 by decide), if_neg (show ¬ (6 : Int32) = 2 by decide), if_neg (show ¬ (6 : Int32) = 3 by decide), if_neg (show ¬ (6 : Int32) = 4 by decide), if_neg (show ¬ (6 : Int32) = 5 by decide), if_pos rfl]
      exact ⟨0, te, ca, dr, lo, la, lp, set, free, dirty, holds, kl, kc, ql, qc, rt, rc, rl, rs, re, rb, told, K, W, B, row, rfl, rfl, Or.inl rfl, hm⟩
    · rw [if_pos (show rest ≤ 99 by rw [fc_le] at h ⊢; omega), if_neg h, if_neg (show ¬ (6 : Int32) = 1 by decide), if_neg (show ¬ (6 : Int32) = 2 by decide), if_neg (show ¬ (6 : Int32) = 3 by decide), if_neg (show ¬ (6 : Int32) = 4 by decide), if_neg (show ¬ (6 : Int32) = 5 by decide), if_pos rfl, eq100 h]
      by_cases q : rest < dr
      · rw [if_pos q, if_pos q]
        exact ⟨0, te, ca, dr, lo, la, lp, set, free, dirty, holds, kl, kc, ql, qc, rt, rc, rl, rs, re, rb, told, K, W, B, row, rfl, rfl, Or.inl rfl, hm⟩
      · rw [if_neg q, if_neg q]
        exact ⟨1, te, ca, dr, lo, la, lp, set, free, dirty, holds, kl, kc, ql, qc, rt, rc, rl, rs, re, rb, told, K, W, B, row, rfl, rfl, Or.inr rfl, hm⟩
  by_cases w7 : w = 7
  · subst w7
    have e9 : row (10 : Int32).toNatClampNeg = rb := by rw [pl_lit10]; exact hR.1.1.2.2.1.symm
    rw [px_holds7, e9]
    by_cases h : (100 : Int32) ≤ rest
    · rw [if_neg (show ¬ rest ≤ 99 by rw [fc_le] at h ⊢; omega), if_pos h, if_neg (show ¬ (7 : Int32) = 1 by decide), if_neg (show ¬ (7 : Int32) = 2 by decide), if_neg (show ¬ (7 : Int32) = 3 by decide), if_neg (show ¬ (7 : Int32) = 4 by decide), if_neg (show ¬ (7 : Int32) = 5 by decide), if_neg (show ¬ (7 : Int32) = 6 by decide), if_pos rfl]
      exact ⟨0, te, ca, dr, lo, la, lp, set, free, dirty, holds, kl, kc, ql, qc, rt, rc, rl, rs, re, rb, told, K, W, B, row, rfl, rfl, Or.inl rfl, hm⟩
    · rw [if_pos (show rest ≤ 99 by rw [fc_le] at h ⊢; omega), if_neg h, if_neg (show ¬ (7 : Int32) = 1 by decide), if_neg (show ¬ (7 : Int32) = 2 by decide), if_neg (show ¬ (7 : Int32) = 3 by decide), if_neg (show ¬ (7 : Int32) = 4 by decide), if_neg (show ¬ (7 : Int32) = 5 by decide), if_neg (show ¬ (7 : Int32) = 6 by decide), if_pos rfl, eq100 h]
      by_cases q : rest < rb
      · rw [if_pos q, if_pos q]
        exact ⟨0, te, ca, dr, lo, la, lp, set, free, dirty, holds, kl, kc, ql, qc, rt, rc, rl, rs, re, rb, told, K, W, B, row, rfl, rfl, Or.inl rfl, hm⟩
      · rw [if_neg q, if_neg q]
        exact ⟨1, te, ca, dr, lo, la, lp, set, free, dirty, holds, kl, kc, ql, qc, rt, rc, rl, rs, re, rb, told, K, W, B, row, rfl, rfl, Or.inr rfl, hm⟩
  by_cases w8 : w = 8
  · subst w8
    have e9 : mX8_count row (-1) = free := (R_count hR).1
    rw [px_holds8, e9]
    by_cases h : (100 : Int32) ≤ rest
    · rw [if_neg (show ¬ rest ≤ 99 by rw [fc_le] at h ⊢; omega), if_pos h, if_neg (show ¬ (8 : Int32) = 1 by decide), if_neg (show ¬ (8 : Int32) = 2 by decide), if_neg (show ¬ (8 : Int32) = 3 by decide), if_neg (show ¬ (8 : Int32) = 4 by decide), if_neg (show ¬ (8 : Int32) = 5 by decide), if_neg (show ¬ (8 : Int32) = 6 by decide), if_neg (show ¬ (8 : Int32) = 7 by decide), if_pos rfl]
      exact ⟨0, te, ca, dr, lo, la, lp, set, free, dirty, holds, kl, kc, ql, qc, rt, rc, rl, rs, re, rb, told, K, W, B, row, rfl, rfl, Or.inl rfl, hm⟩
    · rw [if_pos (show rest ≤ 99 by rw [fc_le] at h ⊢; omega), if_neg h, if_neg (show ¬ (8 : Int32) = 1 by decide), if_neg (show ¬ (8 : Int32) = 2 by decide), if_neg (show ¬ (8 : Int32) = 3 by decide), if_neg (show ¬ (8 : Int32) = 4 by decide), if_neg (show ¬ (8 : Int32) = 5 by decide), if_neg (show ¬ (8 : Int32) = 6 by decide), if_neg (show ¬ (8 : Int32) = 7 by decide), if_pos rfl, eq100 h]
      by_cases q : free < rest
      · rw [if_pos q, if_pos q]
        exact ⟨0, te, ca, dr, lo, la, lp, set, free, dirty, holds, kl, kc, ql, qc, rt, rc, rl, rs, re, rb, told, K, W, B, row, rfl, rfl, Or.inl rfl, hm⟩
      · rw [if_neg q, if_neg q]
        exact ⟨1, te, ca, dr, lo, la, lp, set, free, dirty, holds, kl, kc, ql, qc, rt, rc, rl, rs, re, rb, told, K, W, B, row, rfl, rfl, Or.inr rfl, hm⟩
  by_cases w9 : w = 9
  · subst w9
    have l9 : (9999 : Int32).toInt = 9999 := by decide
    have l10 : (10000 : Int32).toInt = 10000 := by decide
    rw [px_holds9, P_keeps (rf := rf) (ss := ss) (sp := sp) (ig := ig) (lf := lf) (ac := ac) hR]
    have k01 : mX8_keeps rf ss sp ig lf ac row rest = 0 ∨ mX8_keeps rf ss sp ig lf ac row rest = 1 := by
      rw [← P_keeps hR]; exact fx_keeps01 rfl
    have fin : ∀ {z : Int32}, z = (if rest ≤ 9999 then mX8_keeps rf ss sp ig lf ac row rest else 0) → (if (10000 : Int32) ≤ rest then ((0 : Int32), row) else if mX8_keeps rf ss sp ig lf ac row rest = 0 then (0, row) else (1, row)) = (z, row) := by
      intro z hz
      by_cases q : rest ≤ 9999
      · rw [if_pos q] at hz
        rw [if_neg (show ¬ (10000 : Int32) ≤ rest by rw [fc_le] at q ⊢; omega)]
        rcases k01 with e | e
        · rw [hz, e, if_pos rfl]
        · rw [hz, e, if_neg px_10]
      · rw [if_neg q] at hz
        rw [if_pos (show (10000 : Int32) ≤ rest by rw [fc_le] at q ⊢; omega), hz]
    refine ⟨(if rest ≤ 9999 then mX8_keeps rf ss sp ig lf ac row rest else 0), te, ca, dr, lo, la, lp, set, free, dirty, holds, kl, kc, ql, qc, rt, rc, rl, rs, re, rb, told, K, W, B, row, rfl, ?_, ?_, hm⟩
    · by_cases h : (100 : Int32) ≤ rest
      · rw [if_pos h, if_neg (show ¬ (9 : Int32) = 1 by decide), if_neg (show ¬ (9 : Int32) = 2 by decide), if_neg (show ¬ (9 : Int32) = 3 by decide), if_neg (show ¬ (9 : Int32) = 4 by decide), if_neg (show ¬ (9 : Int32) = 5 by decide), if_neg (show ¬ (9 : Int32) = 6 by decide), if_neg (show ¬ (9 : Int32) = 7 by decide), if_neg (show ¬ (9 : Int32) = 8 by decide), if_pos rfl]; exact fin rfl
      · rw [if_neg h, if_neg (show ¬ (9 : Int32) = 1 by decide), if_neg (show ¬ (9 : Int32) = 2 by decide), if_neg (show ¬ (9 : Int32) = 3 by decide), if_neg (show ¬ (9 : Int32) = 4 by decide), if_neg (show ¬ (9 : Int32) = 5 by decide), if_neg (show ¬ (9 : Int32) = 6 by decide), if_neg (show ¬ (9 : Int32) = 7 by decide), if_neg (show ¬ (9 : Int32) = 8 by decide), if_pos rfl]; exact fin rfl
    · by_cases q : rest ≤ 9999
      · rw [if_pos q]; exact k01
      · rw [if_neg q]; exact Or.inl rfl
  · rw [px_holds0 w5 w6 w7 w8 w9]
    refine ⟨0, te, ca, dr, lo, la, lp, set, free, dirty, holds, kl, kc, ql, qc, rt, rc, rl, rs, re, rb, told, K, W, B, row, rfl, ?_, Or.inl rfl, hm⟩
    by_cases h : (100 : Int32) ≤ rest
    · rw [if_pos h, if_neg w1, if_neg w2, if_neg w3, if_neg w4, if_neg w5, if_neg w6, if_neg w7, if_neg w8, if_neg w9]
    · rw [if_neg h, if_neg w1, if_neg w2, if_neg w3, if_neg w4, if_neg w5, if_neg w6, if_neg w7, if_neg w8, if_neg w9]
theorem pl_div1 {x : Int64} (h : 0 ≤ x.toInt) : x / 1 = x := by
  rw [← Int64.toInt_inj, fl_div (k := 1) (n := 1) (by decide) h (by decide), Int.ediv_one]
theorem pl_small {x : Int64} (h : 0 ≤ x.toInt ∧ x.toInt < 10000000) : x - x / 10000000 * 10000000 = x := by
  rw [← Int64.toInt_inj, fl_rem (k := 10000000) (n := 10000000) (by decide) h.1 (by decide)]
  omega
theorem P_runScript {p0 : Int32} {p1 : Int64} (hR : RR Bd K W C B set holds count free dirty kc kl qc ql told rt rc rl rs re rb te ca dr lo la lp row) (hB : Bd + 300 < 1000000000) : (mX7_runScript set holds count free dirty kc kl qc ql told rt rc rl rs re rb te ca dr lo la lp gset gholds gcount gfree gdirty gkc gkl gqc gql gtold grt grc grl grs gre grb gte gca gdr glo gla glp p0 p1 = Sum.inl (fxE 0) ∧ mX8_runScript rf ss sp ig lf ac row trow p0 p1 = (0, 1, trow)) ∨
    ∃ (r : Int32) (z : fcSV) (trow' : Nat → Int32), mX7_runScript set holds count free dirty kc kl qc ql told rt rc rl rs re rb te ca dr lo la lp gset gholds gcount gfree gdirty gkc gkl gqc gql gtold grt grc grl grs gre grb gte gca gdr glo gla glp p0 p1 = Sum.inr (r, z) ∧ mX8_runScript rf ss sp ig lf ac row trow p0 p1 = (r, 0, trow') := by
  have l1 : (1 : Int32).toInt = 1 := by decide
  have l2 : (2 : Int32).toInt = 2 := by decide
  have m0 : (0 : Int64).toInt = 0 := by decide
  have m7 : (10000000 : Int64).toInt = 10000000 := by decide
  unfold mX7_runScript mX8_runScript
  by_cases c1 : p0.toInt < 1
  · left
    rw [if_pos (show p0 < 1 by rw [fc_lt]; omega), px_in0 (show (1 : Int64).toInt = 1 by decide) (show (2 : Int64).toInt = 2 by decide) (by omega)]
    exact ⟨rfl, rfl⟩
  rw [if_neg (show ¬ p0 < 1 by rw [fc_lt]; omega)]
  by_cases c2 : p0.toInt ≤ 2
  case neg =>
    left
    rw [if_neg (show ¬ p0 ≤ 2 by rw [fc_le]; omega), px_in0 (show (1 : Int64).toInt = 1 by decide) (show (2 : Int64).toInt = 2 by decide) (by omega)]
    exact ⟨rfl, rfl⟩
  rw [if_pos (show p0 ≤ 2 by rw [fc_le]; omega), px_in1 (show (1 : Int64).toInt = 1 by decide) (show (2 : Int64).toInt = 2 by decide) (by omega)]
  try dsimp only
  rw [if_neg px_10]
  by_cases c3 : p1.toInt < 0
  · left
    rw [if_pos (show lg_cmp p1 0 < 0 by rw [lg_cmp_lt, Int64.lt_iff_toInt_lt]; omega)]
    have : mX8_in p1 0 (mX8_tenTo (7 * p0) - 1) = 0 := by
      rw [fx_in4 rfl m0 rfl]; exact if_neg (by omega)
    rw [this, if_pos rfl]
    exact ⟨rfl, rfl⟩
  rw [if_neg (show ¬ lg_cmp p1 0 < 0 by rw [lg_cmp_lt, Int64.lt_iff_toInt_lt]; omega)]
  have hq : (p1 / 10000000).toInt = p1.toInt / 10000000 := fl_div (k := 10000000) m7 (by omega) (by decide)
  by_cases c4 : p1.toInt < 100000000000000
  case neg =>
    left
    rw [if_pos (show 0 ≤ lg_cmp (p1 / 10000000) 10000000 by rw [lg_cmp_ge, Int64.le_iff_toInt_le]; omega)]
    have : mX8_in p1 0 (mX8_tenTo (7 * p0) - 1) = 0 := by
      have e : p0 = 1 ∨ p0 = 2 := by rw [fc_eq, fc_eq]; omega
      rcases e with e | e
      · rw [e, show (7 : Int32) * 1 = 7 by decide, fx_ten7, fx_in4 rfl m0 (show ((10000000 : Int64) - 1).toInt = 9999999 by decide)]; exact if_neg (by omega)
      · rw [e, show (7 : Int32) * 2 = 14 by decide, fx_ten14, fx_in4 rfl m0 (show ((100000000000000 : Int64) - 1).toInt = 99999999999999 by decide)]; exact if_neg (by omega)
    rw [this, if_pos rfl]
    exact ⟨rfl, rfl⟩
  rw [if_neg (show ¬ 0 ≤ lg_cmp (p1 / 10000000) 10000000 by rw [lg_cmp_ge, Int64.le_iff_toInt_le]; omega)]
  obtain ⟨set', holds', kc', qc', told', e1, e2⟩ := R_copyFrom (gset := gset) (gholds := gholds) (gcount := gcount) (gfree := gfree) (gdirty := gdirty) (gkc := gkc) (gkl := gkl) (gqc := gqc) (gql := gql) (gtold := gtold) (grt := grt) (grc := grc) (grl := grl) (grs := grs) (gre := gre) (grb := grb) (gte := gte) (gca := gca) (gdr := gdr) (glo := glo) (gla := gla) (glp := glp) hR
  have hr : RR Bd K W C B set' holds' count free dirty kc' kl qc' ql told' rt rc rl rs re rb te ca dr lo la lp (mX8_tryIt 0 ss sp ig lf ac row trow) := R_rowcopy e2
  have hlast : 0 ≤ (p1 - p1 / 10000000 * 10000000).toInt32.toInt ∧ (p1 - p1 / 10000000 * 10000000).toInt32.toInt < 10000000 := by
    have h2 := fl_rem (x := p1) (k := 10000000) (n := 10000000) m7 (by omega) (by decide)
    rw [fl_i32 (by omega) (by omega), h2]; omega
  by_cases d : p0 = 1
  · subst d
    rw [if_pos rfl, show (7 : Int32) * 1 = 7 by decide, fx_ten7]
    by_cases c5 : p1.toInt < 10000000
    case neg =>
      left
      rw [if_neg (show ¬ lg_cmp (p1 / 10000000) 0 ≤ 0 by rw [lg_cmp_le, Int64.le_iff_toInt_le]; omega)]
      have : mX8_in p1 0 (10000000 - 1) = 0 := by
        rw [fx_in4 rfl m0 (show ((10000000 : Int64) - 1).toInt = 9999999 by decide)]; exact if_neg (by omega)
      rw [this, if_pos rfl]
      exact ⟨rfl, rfl⟩
    right
    rw [if_pos (show lg_cmp (p1 / 10000000) 0 ≤ 0 by rw [lg_cmp_le, Int64.le_iff_toInt_le]; omega)]
    have : mX8_in p1 0 (10000000 - 1) = 1 := by
      rw [fx_in4 rfl m0 (show ((10000000 : Int64) - 1).toInt = 9999999 by decide)]; exact if_pos (by omega)
    rw [this, if_neg px_10, e1, mX7_runScript_C13]
    try dsimp only
    obtain ⟨r, tex, cax, drx, lox, lax, lpx, setx, freex, dirtyx, holdsx, klx, kcx, qlx, qcx, rtx, rcx, rlx, rsx, rex, rbx, toldx, K2, W2, B2, row2, f1, f2, f3, f4⟩ := P_succ (rf := 0) (ss := ss) (sp := sp) (ig := ig) (lf := lf) (ac := ac) hr (by omega) hlast
    rw [f1, mX7_runScript_C15, mX8_runScript_L63_s, mX8_runScript_S63, if_neg (show ¬ (1 : Int32) ≤ 0 by decide), show (7 : Int32) * (1 - 1 - 0) = 0 by decide, fx_ten0]
    try dsimp only
    rw [pl_div1 (x := p1) (by omega), f2]
    try dsimp only
    rw [mX8_runScript_C16]
    try dsimp only
    rcases f3 with e | e
    · rw [e, if_pos rfl, if_pos rfl]
      exact ⟨_, _, _, rfl, rfl⟩
    · rw [e, if_neg px_10, if_neg px_10, mX8_runScript_L63_s, mX8_runScript_S63, if_pos (show (1 : Int32) ≤ 0 + 1 by decide)]
      exact ⟨_, _, _, rfl, rfl⟩
  · obtain rfl : p0 = 2 := by
      rw [fc_eq] at d ⊢
      omega
    right
    rw [if_neg d, show (7 : Int32) * 2 = 14 by decide, fx_ten14]
    have : mX8_in p1 0 (100000000000000 - 1) = 1 := by
      rw [fx_in4 rfl m0 (show ((100000000000000 : Int64) - 1).toInt = 99999999999999 by decide)]; exact if_pos (by omega)
    have hfirst : 0 ≤ (p1 / 10000000).toInt32.toInt ∧ (p1 / 10000000).toInt32.toInt < 10000000 := by
      rw [fl_i32 (by omega) (by omega)]; omega
    rw [this, if_neg px_10, e1, mX7_runScript_C6]
    try dsimp only
    obtain ⟨r, tex, cax, drx, lox, lax, lpx, setx, freex, dirtyx, holdsx, klx, kcx, qlx, qcx, rtx, rcx, rlx, rsx, rex, rbx, toldx, K2, W2, B2, row2, f1, f2, f3, f4⟩ := P_succ (rf := 0) (ss := ss) (sp := sp) (ig := ig) (lf := lf) (ac := ac) hr (by omega) hfirst
    rw [f1, mX7_runScript_C8, mX8_runScript_L63_s, mX8_runScript_S63, if_neg (show ¬ (2 : Int32) ≤ 0 by decide), show (7 : Int32) * (2 - 1 - 0) = 7 by decide, fx_ten7]
    try dsimp only
    rw [pl_small (x := p1 / 10000000) (by omega), f2]
    try dsimp only
    rw [mX8_runScript_C16]
    try dsimp only
    rcases f3 with e | e
    · rw [e, if_pos rfl, if_pos rfl]
      exact ⟨_, _, _, rfl, rfl⟩
    · rw [e, if_neg px_10, if_neg px_10]
      obtain ⟨r3, tey, cay, dry, loy, lay, lpy, sety, freey, dirtyy, holdsy, kly, kcy, qly, qcy, rty, rcy, rly, rsy, rey, rby, toldy, K3, W3, B3, row3, h1, h2, h3, h4⟩ := P_succ (rf := 0) (ss := ss) (sp := sp) (ig := ig) (lf := lf) (ac := ac) f4 (by omega) hlast
      rw [h1, mX7_runScript_C10, mX8_runScript_L63_s, mX8_runScript_S63, if_neg (show ¬ (2 : Int32) ≤ 0 + 1 by decide), show (7 : Int32) * (2 - 1 - (0 + 1)) = 0 by decide, fx_ten0]
      try dsimp only
      rw [pl_div1 (x := p1) (by omega), h2]
      try dsimp only
      rw [mX8_runScript_C16]
      try dsimp only
      rcases h3 with e | e
      · rw [e, if_pos rfl, if_pos rfl]
        exact ⟨_, _, _, rfl, rfl⟩
      · rw [e, if_neg px_10, if_neg px_10, mX8_runScript_L63_s, mX8_runScript_S63, if_pos (show (2 : Int32) ≤ 0 + 1 + 1 by decide)]
        exact ⟨_, _, _, rfl, rfl⟩
end
