/-! PURE: which frame changed least; whether the first that waits lacks blocks -/
section
variable {Bd K W C B : Nat} {set holds : Nat → Int32} {count free dirty : Int32} {kc : Nat → Int32} {kl : Int32} {qc : Nat → Int32} {ql : Int32} {told : Nat → Int32} {rt rc rl rs re rb te ca dr lo la lp : Int32} {row : Nat → Int32}
theorem r_change (hKe : RKe K C holds kc row) (hK : K ≤ 48) {x : Nat} (hx : x < K) : mX1_get 336 kc (nI K) (nI x) 4 = mX8_changeOf row (nI x) := by
  have e4 : (4 : Int32) = nI 4 := rfl
  rw [e4, pg_get (by decide) (by omega) hx (by omega), (hKe x hx).2.2.1]
  unfold mX8_changeOf
  by_cases h0 : x = 0
  · subst h0
    rw [if_pos rfl, if_pos (show nI 0 = 0 from rfl)]
  · rw [if_neg h0, if_neg (nI_ne0 (by omega) (by omega))]
    have z : nI x - 1 = nI (x - 1) := pk_sub (a := x) (b := 1) (by omega)
    have k1 : mX8_keptAt (nI x) 1 = nI (67 + 5 * x + 1) := pkA x 1
    have k2 : mX8_keptAt (nI (x - 1)) 1 = nI (67 + 5 * (x - 1) + 1) := pkA (x - 1) 1
    rw [z, k1, k2]
    dsimp only
    rw [nI_clamp (by omega), nI_clamp (by omega), pd_same, pd_comm]
theorem r_least_L (hKe : RKe K C holds kc row) (hK : K ≤ 48) (h16 : row 16 = nI K) : ∀ (a b x1 x2 : Nat), x1 < K → x2 ≤ K → K < x2 + a → K < x2 + b →
    ∃ d, d < K ∧ mX5_leastChanged_L25 set holds count free dirty kc (nI K) qc ql told rt rc rl rs re rb te ca dr lo la lp a (nI x1) (nI x2) = nI d ∧ mX8_leastOf_L19 row b (nI x1) (nI x2) = nI d := by
  intro a
  induction a with
  | zero => intro b x1 x2 h1 h2 h3; omega
  | succ a ih =>
    intro b x1 x2 h1 h2 h3 h4
    obtain ⟨b, rfl⟩ : ∃ c, b = c + 1 := ⟨b - 1, by omega⟩
    rw [mX5_leastChanged_L25_s, mX5_leastChanged_S25, mX8_leastOf_L19_s, mX8_leastOf_S19, pl_lit16, h16]
    by_cases e : x2 = K
    · subst e
      refine ⟨x1, h1, ?_, ?_⟩
      · split
        · rfl
        · rw [if_pos (nI_le (Nat.le_refl _) (by omega))]
      · rw [if_pos (nI_le (Nat.le_refl _) (by omega))]
    · rw [if_neg (show ¬ (48 : Int32) ≤ nI x2 from nI_ge (show x2 < 48 by omega) (by decide)), if_neg (nI_ge (show x2 < K by omega) (by omega)), if_neg (nI_ge (show x2 < K by omega) (by omega)), r_change hKe hK (show x2 < K by omega), r_change hKe hK h1]
      dsimp only
      by_cases c : mX8_changeOf row (nI x1) ≤ mX8_changeOf row (nI x2)
      · rw [if_pos c, if_pos c, nI_1]
        exact ih b x1 (x2 + 1) h1 (by omega) (by omega) (by omega)
      · rw [if_neg c, if_neg c, nI_1]
        exact ih b x2 (x2 + 1) (by omega) (by omega) (by omega) (by omega)
theorem R_least (hR : RR Bd K W C B set holds count free dirty kc kl qc ql told rt rc rl rs re rb te ca dr lo la lp row) (hK0 : 0 < K) : ∃ d, d < K ∧ mX5_leastChanged set holds count free dirty kc kl qc ql told rt rc rl rs re rb te ca dr lo la lp = nI d ∧ mX8_leastOf row = nI d := by
  obtain ⟨⟨-, ⟨⟨⟨n1, n2⟩, -⟩, -, -, c48⟩, -⟩, ⟨hKe, -, hNu⟩, -, -⟩ := hR
  have hK := RK48 hKe hNu
  unfold mX5_leastChanged mX8_leastOf
  rw [n1, pl_lit16, n2]
  by_cases h : 2 ≤ K
  · rw [if_pos (show (1 : Int32) < nI K from nI_lt (a := 1) (by omega) (by omega)), if_pos (show (2 : Int32) ≤ nI K from nI_le (a := 2) h (by omega))]
    exact r_least_L hKe (by omega) n2 49 47 1 2 (by omega) (by omega) (by omega) (by omega)
  · have : K = 1 := by omega
    subst this
    rw [if_neg (show ¬ (1 : Int32) < nI 1 by decide), if_neg (show ¬ (2 : Int32) ≤ nI 1 by decide)]
    exact ⟨0, by omega, rfl, rfl⟩
theorem R_least0 (hR : RR Bd 0 W C B set holds count free dirty kc kl qc ql told rt rc rl rs re rb te ca dr lo la lp row) : mX5_leastChanged set holds count free dirty kc kl qc ql told rt rc rl rs re rb te ca dr lo la lp = -1 ∧ mX8_leastOf row = -1 := by
  obtain ⟨⟨-, ⟨⟨⟨n1, n2⟩, -⟩, -, -, c48⟩, -⟩, -⟩ := hR
  unfold mX5_leastChanged mX8_leastOf
  rw [n1, pl_lit16, n2, if_neg (show ¬ (1 : Int32) < nI 0 by decide), if_neg (show ¬ (2 : Int32) ≤ nI 0 by decide)]
  exact ⟨rfl, rfl⟩
theorem R_count (hR : RR Bd K W C B set holds count free dirty kc kl qc ql told rt rc rl rs re rb te ca dr lo la lp row) : mX8_count row (-1) = free ∧ mX8_count row (-2) = dirty := by
  obtain ⟨⟨-, ⟨⟨-, -, ⟨n5, n6⟩, -⟩, -, -, c48⟩, hBl, hf, hd⟩, -⟩ := hR
  rw [pct c48 n6, pct c48 n6, hf, hd]
  have e : ∀ v, pcnt (fun j => row (19 + j)) v C = pcnt holds v C := fun v => pcnt_cong (fun j hj => (hBl j hj).symm)
  rw [e, e]
  exact ⟨rfl, rfl⟩
theorem R_lacks (hR : RR Bd K W C B set holds count free dirty kc kl qc ql told rt rc rl rs re rb te ca dr lo la lp row) : mX5_firstLacksBlocks set holds count free dirty kc kl qc ql told rt rc rl rs re rb te ca dr lo la lp = mX8_lacks row := by
  have hc := R_count hR
  obtain ⟨⟨-, ⟨⟨-, ⟨n3, n4⟩, -⟩, w4, -⟩, -⟩, ⟨-, hQu, -⟩, -⟩ := hR
  unfold mX5_firstLacksBlocks mX8_lacks
  rw [n3, pl_lit17, n4, hc.1, hc.2]
  by_cases h : W = 0
  · subst h
    rw [if_pos (show nI 0 ≤ 0 by decide), if_pos (show nI 0 ≤ 0 by decide)]
  · rw [if_neg (nI_nle (by omega) (by omega)), if_neg (nI_nle (by omega) (by omega))]
    have a2 : mX1_get 28 qc (nI W) 0 2 = qc 2 := pg_get (a := 0) (w := 2) (by decide) (by omega) (by omega) (by omega)
    have e5 : mX8_waitAt 0 2 = nI 309 := pwA 0 2
    have q2 : qc 2 = row 309 := (hQu 0 (by omega)).1 2 (by omega)
    rw [a2, e5, q2]
    dsimp only
    rw [nI_clamp (by omega)]
end
