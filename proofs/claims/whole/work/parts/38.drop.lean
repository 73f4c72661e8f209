/-! PURE: a kept frame is dropped -/
theorem upd_self {f : Nat → Int32} {k : Nat} : upd f k (f k) = f := by
  funext j
  by_cases e : j = k
  · subst e; exact pu_eq
  · exact pu_ne e
/-- what the reference's dropping leaves -/
noncomputable def pD (r : Nat → Int32) (K d : Nat) : Nat → Int32 := upd (upd (va_cpy r r (67 + 5 * (d + 1)) (67 + 5 * d) (5 * (K - 1 - d))) 16 (nI (K - 1))) 6 (r 6 + 1)
theorem pD_L {C K d : Nat} {row : Nat → Int32} (hC : C ≤ 48) (hK : K ≤ 48) (hd : d < K) (h3 : row 3 = nI C) (h16 : row 16 = nI K) : ∀ (k b : Nat) (h : Nat → Int32), b ≤ C → C < b + k → row (67 + 5 * d) ≠ -2 →
    mX8_dropIn_L19 row (nI d) (nI (67 + 5 * d)) (nI (67 + 5 * d + 2)) k (nI b) (pem row h C) = (row (67 + 5 * d + 2), pD (pem row (psl h (row (67 + 5 * d)) b C) C) K d) := by
  intro k
  induction k with
  | zero => intro b h h1 h2; omega
  | succ k ih =>
    intro b h h1 h2 hv
    rw [mX8_dropIn_L19_s, mX8_dropIn_S19, pl_3, pem_out (by omega), h3]
    by_cases hb : b = C
    · subst hb
      rw [if_pos (nI_le (Nat.le_refl _) (by omega)), psl_end]
      simp only [pl_lit16, pl_lit6]
      have e1 : mX8_keptAt (nI d + 1) 0 = nI (67 + 5 * (d + 1)) := by rw [nI_1]; exact pkA (d + 1) 0
      have e2 : mX8_keptAt (nI d) 0 = nI (67 + 5 * d) := pkA d 0
      have e3 : (5 : Int32) * ((pem row h b 16 - 1) - nI d) = nI (5 * (K - 1 - d)) := by
        rw [pem_out (by omega), h16]
        have z : nI K - 1 = nI (K - 1) := pk_sub (a := K) (b := 1) (by omega)
        rw [z, pk_sub (by omega)]
        exact pk_mul 5 _
      rw [e1, e2, e3, pcs (by omega) (by omega) (by omega) (Or.inl (by omega)), nI_clamp (by omega)]
      unfold pD
      simp (disch := omega) only [pu_ne, pk_cpy_out]
      rw [pem_out (by omega), pem_out (by omega), h16]
      have z : nI K - 1 = nI (K - 1) := pk_sub (a := K) (b := 1) (by omega)
      rw [z]
    · have hlt : b < C := by omega
      rw [if_neg (nI_ge hlt (by omega)), p19, nI_clamp (by omega), nI_clamp (by omega), pem_in hlt]
      by_cases h6 : h b = row (67 + 5 * d)
      · rw [if_pos h6, pem_upd hlt, nI_1, ih (b + 1) _ (by omega) (by omega) hv, psl_hit hlt h6 hv]
      · rw [if_neg h6]
        have e : upd (pem row h C) (19 + b) (h b) = pem row h C := by
          have := upd_self (f := pem row h C) (k := 19 + b)
          rw [pem_in hlt] at this
          exact this
        rw [e, nI_1, ih (b + 1) _ (by omega) (by omega) hv, psl_miss hlt h6]
section
variable {Bd K W C B : Nat} {set holds : Nat → Int32} {count free dirty : Int32} {kc : Nat → Int32} {kl : Int32} {qc : Nat → Int32} {ql : Int32} {told : Nat → Int32} {rt rc rl rs re rb te ca dr lo la lp : Int32} {row : Nat → Int32}
/-- the class's row of frames behind a dropping -/
noncomputable def pkd (kc : Nat → Int32) (K d : Nat) : Nat → Int32 :=
  if d + 1 < K then upd (va_cpy kc kc (7 * (d + 1)) (7 * d) (7 * K - 7 * (d + 1))) (7 * d + 4) (if d = 0 then -1 else mX7_difference (kc (7 * (d - 1) + 1)) (kc (7 * (d + 1) + 1))) else va_cpy kc kc (7 * (d + 1)) (7 * d) (7 * K - 7 * (d + 1))
theorem r_measure {kc : Nat → Int32} {K d : Nat} (hK : K ≤ 48) (hd : d < K) : mX1_measureChange 336 (va_cpy kc kc (7 * (d + 1)) (7 * d) (7 * K - 7 * (d + 1))) (nI (K - 1)) (nI d) = pkd kc K d := by
  unfold mX1_measureChange pkd
  have e4 : (4 : Int32) = nI 4 := rfl
  have e1 : (1 : Int32) = nI 1 := rfl
  by_cases h0 : d = 0
  · subst h0
    rw [if_pos (show nI 0 = 0 from rfl)]
    by_cases h1 : 0 + 1 < K
    · rw [if_pos h1, if_pos rfl, e4, pg_put (K := K - 1) (a := 0) (w := 4) (by decide) (by omega) (by omega) (by omega)]
    · rw [if_neg h1, pg_put_out (by rw [fc_nI (by omega), fc_nI (by omega)]; omega)]
  · rw [if_neg (nI_ne0 (by omega) (by omega))]
    by_cases h1 : d + 1 < K
    · rw [if_pos h1, if_neg h0, pg_has (by omega) (by omega), if_neg (by decide)]
      have z : nI d - 1 = nI (d - 1) := pk_sub (a := d) (b := 1) (by omega)
      rw [z, e1, pg_get (K := K - 1) (by decide) (by omega) (by omega) (by omega), pg_get (K := K - 1) (by decide) (by omega) (by omega) (by omega)]
      dsimp only
      rw [e4, pg_put (K := K - 1) (by decide) (by omega) (by omega) (by omega), psh7 (by omega) (by omega) hd, psh7 (by omega) (by omega) hd, if_pos (by omega), if_neg (by omega)]
    · rw [if_neg h1, pg_has0 (by rw [fc_nI (by omega), fc_nI (by omega)]; omega), if_pos rfl]
theorem pkd_at {kc : Nat → Int32} {K d i w : Nat} (hd : d < K) (hi : i + 1 < K) (hw : w < 7) (hn : i ≠ d ∨ w ≠ 4) : pkd kc K d (7 * i + w) = if i < d then kc (7 * i + w) else kc (7 * (i + 1) + w) := by
  unfold pkd
  by_cases h1 : d + 1 < K
  · rw [if_pos h1, pu_ne (by omega), psh7 hw hi hd]
  · rw [if_neg h1, psh7 hw hi hd]
theorem pkd_ch {kc : Nat → Int32} {K d : Nat} (h1 : d + 1 < K) : pkd kc K d (7 * d + 4) = if d = 0 then -1 else mX7_difference (kc (7 * (d - 1) + 1)) (kc (7 * (d + 1) + 1)) := by
  unfold pkd
  rw [if_pos h1, pu_eq]
theorem R_drop {d : Nat} (hR : RR Bd K W C B set holds count free dirty kc kl qc ql told rt rc rl rs re rb te ca dr lo la lp row) (hd : d < K) :
    ∃ dirty' holds' kc' row', mX5_dropKept set holds count free dirty kc kl qc ql told rt rc rl rs re rb te ca dr lo la lp (nI d) = (row (67 + 5 * d + 2), dr + 1, dirty', holds', nI (K - 1), kc') ∧ mX8_dropIn row (nI d) = (row (67 + 5 * d + 2), row') ∧
      RR Bd (K - 1) W C B set holds' count free dirty' kc' (nI (K - 1)) qc ql told rt rc rl rs re rb te ca (dr + 1) lo la lp row' := by
  obtain ⟨⟨⟨⟨⟨s0, s1, s2⟩, s4, s5, s6, s7, s8⟩, s9, s10, s11, s12, s13, s14, s15⟩, ⟨⟨⟨n1, n2⟩, ⟨n3, n4⟩, ⟨n5, n6⟩, n7, n8⟩, w4, c8, c48⟩, hBl, hfr, hdi⟩, ⟨hKe, hQu, hNu⟩, hTo, hBd⟩ := hR
  have hK := RK48 hKe hNu
  have z1 := pz_1
  have z2 := pz_2
  have hn0 : ∀ i, i < K + W → 0 ≤ (pnum row K i).toInt := fun i hi => (hNu.2.1 i hi).1
  have hnk : ∀ i, i < K → pnum row K i = row (67 + 5 * i) := fun i hi => by unfold pnum; rw [if_pos hi]
  obtain ⟨g1, g2, g3, n, m, g4, g5, g6, g7, g8, g9⟩ := hKe d hd
  have v0 : 0 ≤ (row (67 + 5 * d)).toInt := by have := hn0 d (by omega); rw [hnk d hd] at this; exact this
  have v1 : row (67 + 5 * d) ≠ -1 := fun z => by rw [z] at v0; omega
  have v2 : row (67 + 5 * d) ≠ -2 := fun z => by rw [z] at v0; omega
  have hnum : kc (7 * d) = row (67 + 5 * d) := g1 0 (by omega)
  -- the class
  have e1 : mX5_dropKept set holds count free dirty kc kl qc ql told rt rc rl rs re rb te ca dr lo la lp (nI d) = (row (67 + 5 * d + 2), dr + 1, nI (pcnt holds (-2) C + n), psl holds (row (67 + 5 * d)) 0 C, nI (K - 1), pkd kc K d) := by
    unfold mX5_dropKept
    have a1 : mX1_get 336 kc kl (nI d) 0 = row (67 + 5 * d) := by
      rw [n1, show (0 : Int32) = nI 0 from rfl, pg_get (by decide) (by omega) hd (by omega)]
      exact hnum
    have a2 : mX0_soil holds count free dirty (row (67 + 5 * d)) = (nI n, nI (pcnt holds (-2) C + n), psl holds (row (67 + 5 * d)) 0 C) := by
      unfold mX0_soil
      have := psl_class (C := C) (free := free) c48 v2 49 0 0 (pcnt holds (-2) C) holds (Nat.zero_le _) (by omega)
      simp only [pcnt, Nat.zero_add, Nat.sub_zero, g7] at this
      rw [n5, hdi]
      exact this
    rw [a1]
    dsimp only
    rw [a2, n1, pg_remove (by decide) (by omega) hd]
    dsimp only
    rw [r_measure (by omega) hd, g4]
  -- the reference
  have e2 : mX8_dropIn row (nI d) = (row (67 + 5 * d + 2), pD (pem row (psl holds (row (67 + 5 * d)) 0 C) C) K d) := by
    unfold mX8_dropIn
    have k0 : mX8_keptAt (nI d) 0 = nI (67 + 5 * d) := pkA d 0
    have k2 : mX8_keptAt (nI d) 2 = nI (67 + 5 * d + 2) := pkA d 2
    rw [k0, k2]
    have := pD_L c48 (by omega) hd n6 n2 49 0 holds (Nat.zero_le _) (by omega) v2
    rw [pem_self hBl] at this
    exact this
  refine ⟨_, _, _, _, e1, e2, ?_⟩
  generalize hh : psl holds (row (67 + 5 * d)) 0 C = holds'
  have hpat : ∀ w : Int32, w ≠ -2 → w ≠ row (67 + 5 * d) → pat holds holds' w C := fun w h1 h2 => by rw [← hh]; exact psl_pat h1 h2
  generalize hr : pD (pem row holds' C) K d = row'
  have rb1 : ∀ b, b < C → row' (19 + b) = holds' b := by
    intro b hb
    rw [← hr]
    unfold pD
    simp (disch := omega) only [pu_ne, pk_cpy_out]
    exact pem_in hb
  have rd : ∀ j, j < 6 ∨ (6 < j ∧ j < 16) ∨ (16 < j ∧ j < 19) ∨ 307 ≤ j → row' j = row j := by
    intro j hj
    rw [← hr]
    unfold pD
    simp (disch := omega) only [pu_ne, pk_cpy_out, pem_out]
  have r6 : row' 6 = row 6 + 1 := by
    rw [← hr]
    unfold pD
    simp (disch := omega) only [pu_ne, pu_eq', pem_out]
  have r16 : row' 16 = nI (K - 1) := by
    rw [← hr]
    unfold pD
    simp (disch := omega) only [pu_ne, pu_eq', pem_out]
  have rk : ∀ i w, i + 1 < K → w < 5 → row' (67 + 5 * i + w) = if i < d then row (67 + 5 * i + w) else row (67 + 5 * (i + 1) + w) := by
    intro i w hi hw
    rw [← hr]
    unfold pD
    rw [pu_ne (by omega), pu_ne (by omega), psh5 hw hi hd]
    by_cases q : i < d
    · rw [if_pos q, if_pos q, pem_out (by omega)]
    · rw [if_neg q, if_neg q, pem_out (by omega)]
  have rk0 : ∀ i, i + 1 < K → row' (67 + 5 * i) = if i < d then row (67 + 5 * i) else row (67 + 5 * (i + 1)) := fun i hi => rk i 0 hi (by omega)
  have rn : ∀ i, i < K - 1 + W → pnum row' (K - 1) i = if i < d then pnum row K i else pnum row K (i + 1) := by
    intro i hi
    unfold pnum
    by_cases q : i < K - 1
    · rw [if_pos q, rk0 i (by omega)]
      by_cases q2 : i < d
      · rw [if_pos q2, if_pos q2, if_pos (by omega)]
      · rw [if_neg q2, if_neg q2, if_pos (by omega)]
    · rw [if_neg q, if_neg (by omega), if_neg (by omega), rd _ (by omega)]
      congr 3; omega
  refine ⟨⟨⟨⟨⟨?_, ?_, ?_⟩, ?_, ?_, ?_, ?_, ?_⟩, ?_, ?_, ?_, ?_, ?_, ?_, ?_⟩, ⟨⟨⟨rfl, r16⟩, ⟨n3, ?_⟩, ⟨n5, ?_⟩, n7, ?_⟩, w4, c8, c48⟩, ⟨fun b hb => (rb1 b hb).symm, ?_, ?_⟩⟩, ⟨?_, hQu.cong (fun j h1 h2 => rd _ (by omega)) (Int.le_refl _), ?_⟩, hTo.cong (fun j h1 h2 => rd _ (by omega)), hBd⟩
  case refine_19 => rw [hfr, (hpat (-1) (by decide) (fun z => v1 z.symm)).cnt]
  case refine_20 => rw [← hh, psl_cnt v2 C (Nat.le_refl _), g7]
  case refine_21 =>
    intro i hi
    -- which old frame it is
    obtain ⟨o, ho, ho2⟩ : ∃ o, o = (if i < d then i else i + 1) ∧ o < K ∧ o ≠ d := by
      by_cases q : i < d
      · exact ⟨i, by rw [if_pos q], by omega, by omega⟩
      · exact ⟨i + 1, by rw [if_neg q], by omega, by omega⟩
    obtain ⟨h1, h2, h3, n', m', h4, h5, h6, h7, h8, h9⟩ := hKe o ho2.1
    have rw1 : ∀ w, w < 5 → row' (67 + 5 * i + w) = row (67 + 5 * o + w) := by
      intro w hw
      rw [rk i w (by omega) hw, ho]
      by_cases q : i < d
      · rw [if_pos q, if_pos q]
      · rw [if_neg q, if_neg q]
    have rw0 : row' (67 + 5 * i) = row (67 + 5 * o) := rw1 0 (by omega)
    have kw : ∀ w, w < 7 → w ≠ 4 → pkd kc K d (7 * i + w) = kc (7 * o + w) := by
      intro w hw h4
      rw [pkd_at hd (by omega) hw (Or.inr h4), ho]
      by_cases q : i < d
      · rw [if_pos q, if_pos q]
      · rw [if_neg q, if_neg q]
    have hne : row (67 + 5 * o) ≠ row (67 + 5 * d) := by
      intro z
      have z3 := congrArg Int32.toInt z
      rcases Nat.lt_or_ge o d with q | q
      · have := hNu.1 o d q (by omega)
        rw [hnk o ho2.1, hnk d hd] at this; omega
      · have := hNu.1 d o (by omega) (by omega)
        rw [hnk o ho2.1, hnk d hd] at this; omega
    have hge : 0 ≤ (row (67 + 5 * o)).toInt := by have := hn0 o (by omega); rw [hnk o ho2.1] at this; exact this
    have hp := hpat (row (67 + 5 * o)) (fun z => by rw [z] at hge; omega) hne
    refine ⟨fun w hw => by rw [rw1 w (by omega), kw w (by omega) (by omega)]; exact h1 w hw, by rw [rw1 4 (by omega), kw 5 (by omega) (by omega)]; exact h2, ?_, n', m', by rw [rw1 2 (by omega)]; exact h4, h5, h6, by rw [rw0, ← hp.cnt]; exact h7, by rw [rw0]; exact h8.pat hp, by rw [kw 6 (by omega) (by omega)]; exact h9⟩
    by_cases q : i = d
    · subst q
      rw [pkd_ch (by omega)]
      by_cases q0 : i = 0
      · rw [if_pos q0, if_pos q0]
      · rw [if_neg q0, if_neg q0, rk (i - 1) 1 (by omega) (by omega), rk i 1 (by omega) (by omega), if_pos (by omega), if_neg (by omega), (hKe (i - 1) (by omega)).1 1 (by omega), (hKe (i + 1) (by omega)).1 1 (by omega)]
    · rw [pkd_at hd (by omega) (by omega) (Or.inl q)]
      have : (if i < d then kc (7 * i + 4) else kc (7 * (i + 1) + 4)) = kc (7 * o + 4) := by
        rw [ho]
        by_cases q : i < d
        · rw [if_pos q, if_pos q]
        · rw [if_neg q, if_neg q]
      rw [this, h3, rw1 1 (by omega)]
      by_cases q0 : i = 0
      · have : o = 0 := by rw [ho, if_pos (by omega)]; exact q0
        rw [if_pos q0, if_pos this]
      · rw [if_neg q0, rk (i - 1) 1 (by omega) (by omega)]
        by_cases q1 : i < d
        · have : o = i := by rw [ho, if_pos q1]
          rw [this, if_neg q0, if_pos (by omega)]
        · have : o = i + 1 := by rw [ho, if_neg q1]
          rw [this, if_neg (by omega), if_neg (by omega)]
          have e9 : i + 1 - 1 = i - 1 + 1 := by omega
          rw [e9]
  case refine_22 =>
    obtain ⟨h1, h2, h3⟩ := hNu
    refine ⟨fun i j hij hj => ?_, fun i hi => ?_, fun b hb => ⟨?_, fun i q1 q2 => ?_⟩⟩
    · rw [rn i (by omega), rn j hj]
      by_cases q : j < d
      · rw [if_pos q, if_pos (by omega)]; exact h1 i j hij (by omega)
      · rw [if_neg q]
        by_cases q2 : i < d
        · rw [if_pos q2]; exact h1 i (j + 1) (by omega) (by omega)
        · rw [if_neg q2]; exact h1 (i + 1) (j + 1) (by omega) (by omega)
    · rw [rn i hi]
      by_cases q : i < d
      · rw [if_pos q]; exact h2 i (by omega)
      · rw [if_neg q]; exact h2 (i + 1) (by omega)
    · rw [← hh]
      simp only [psl]
      by_cases q : 0 ≤ b ∧ b < C ∧ holds b = row (67 + 5 * d)
      · rw [if_pos q, z2]; have := hBd.2.1; omega
      · rw [if_neg q]; exact (h3 b hb).1
    · rw [rn i q2, if_neg (by omega)]
      intro e
      have y := h2 (i + 1) (by omega)
      have hne : pnum row K (i + 1) ≠ row (67 + 5 * d) := by
        intro z
        have := h1 d (i + 1) (by omega) (by omega)
        rw [z, hnk d hd] at this
        omega
      exact (h3 b hb).2 (i + 1) (by omega) (by omega) (((hpat _ (fun z => by rw [z] at y; omega) hne) b hb).mpr e)
  all_goals first
    | (rw [rd _ (by omega)]; assumption)
    | (rw [r6, s6])
end
