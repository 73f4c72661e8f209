/-! PURE: cleaning -/
theorem pcl_one : ∀ (n b left : Nat) (h : Nat → Int32) (j : Nat), pcl n b left h j = h j ∨ (h j = -2 ∧ pcl n b left h j = -1)
  | 0, _, _, _, _ => Or.inl rfl
  | n + 1, b, left, h, j => by
    simp only [pcl]
    by_cases h0 : left = 0
    · rw [if_pos h0]; exact Or.inl rfl
    · rw [if_neg h0]
      by_cases h1 : h b = -2
      · rw [if_pos h1]
        have ih := pcl_one n (b + 1) (left - 1) (upd h b (-1)) j
        by_cases e : j = b
        · subst e
          rw [pu_eq] at ih
          rcases ih with q | ⟨q, -⟩
          · exact Or.inr ⟨h1, q⟩
          · exact absurd q (by decide)
        · rw [pu_ne e] at ih
          exact ih
      · rw [if_neg h1]
        exact pcl_one n (b + 1) left h j
section
variable {Bd K W C B : Nat} {set holds : Nat → Int32} {count free dirty : Int32} {kc : Nat → Int32} {kl : Int32} {qc : Nat → Int32} {ql : Int32} {told : Nat → Int32} {rt rc rl rs re rb te ca dr lo la lp : Int32} {row : Nat → Int32}
theorem RKe.pat {K C : Nat} {holds holds' kc row : Nat → Int32} (h : RKe K C holds kc row) (e : ∀ i, i < K → pat holds holds' (row (67 + 5 * i)) C) : RKe K C holds' kc row := by
  intro i hi
  obtain ⟨h1, h2, h3, n, m, h4, h5, h6, h7, h8, h9⟩ := h i hi
  exact ⟨h1, h2, h3, n, m, h4, h5, h6, by rw [← (e i hi).cnt]; exact h7, h8.pat (e i hi), h9⟩
theorem RNu.pat {K W C : Nat} {ca : Int32} {holds holds' row : Nat → Int32} (h : RNu K W C ca holds row) (e : ∀ i, K ≤ i → i < K + W → pat holds holds' (pnum row K i) C) (hlt : ∀ b, b < C → (holds' b).toInt < ca.toInt) : RNu K W C ca holds' row := by
  obtain ⟨h1, h2, h3⟩ := h
  exact ⟨h1, h2, fun b hb => ⟨hlt b hb, fun i q1 q2 z => (h3 b hb).2 i q1 q2 ((e i q1 q2 b hb).mpr z)⟩⟩
/-- only blocks that hold no frame change -/
theorem R_blocks {holds' : Nat → Int32} (hR : RR Bd K W C B set holds count free dirty kc kl qc ql told rt rc rl rs re rb te ca dr lo la lp row) (hp : ∀ v : Int32, 0 ≤ v.toInt → pat holds holds' v C) (hlt : ∀ b, b < C → (holds' b).toInt < ca.toInt) :
    RR Bd K W C B set holds' count (nI (pcnt holds' (-1) C)) (nI (pcnt holds' (-2) C)) kc kl qc ql told rt rc rl rs re rb te ca dr lo la lp (pem row holds' C) := by
  obtain ⟨⟨⟨⟨⟨s0, s1, s2⟩, s4, s5, s6, s7, s8⟩, s9, s10, s11, s12, s13, s14, s15⟩, ⟨⟨⟨n1, n2⟩, ⟨n3, n4⟩, ⟨n5, n6⟩, n7, n8⟩, w4, c8, c48⟩, hBl⟩, ⟨hKe, hQu, hNu⟩, hTo, hBd⟩ := hR
  have rd : ∀ j, j < 19 ∨ 19 + C ≤ j → pem row holds' C j = row j := fun j hj => pem_out hj
  have hnn : ∀ i, i < K + W → 0 ≤ (pnum row K i).toInt := fun i hi => (hNu.2.1 i hi).1
  refine ⟨⟨⟨⟨⟨?_, ?_, ?_⟩, ?_, ?_, ?_, ?_, ?_⟩, ?_, ?_, ?_, ?_, ?_, ?_, ?_⟩, ⟨⟨⟨n1, ?_⟩, ⟨n3, ?_⟩, ⟨n5, ?_⟩, n7, ?_⟩, w4, c8, c48⟩, ⟨fun b hb => (pem_in hb).symm, rfl, rfl⟩⟩, ⟨(hKe.pat (fun i hi => hp _ ?_)).cong (fun j h1 h2 => rd _ (by omega)), hQu.cong (fun j h1 h2 => rd _ (by omega)) (Int.le_refl _), (hNu.pat (fun i q1 q2 => hp _ (hnn i q2)) hlt).cong (fun j h1 h2 => rd _ (by omega)) (fun j h1 h2 => rd _ (by omega)) (Int.le_refl _)⟩, hTo.cong (fun j h1 h2 => rd _ (by omega)), hBd⟩
  case refine_20 =>
    have := hnn i (by omega)
    unfold pnum at this
    rw [if_pos hi] at this
    exact this
  all_goals (rw [rd _ (by omega)]; assumption)
theorem R_clean (hR : RR Bd K W C B set holds count free dirty kc kl qc ql told rt rc rl rs re rb te ca dr lo la lp row) :
    ∃ free' dirty' holds' row', mX0_clean holds count free dirty (set 0) = (free', dirty', holds') ∧ mX8_sweep row = row' ∧ RR Bd K W C B set holds' count free' dirty' kc kl qc ql told rt rc rl rs re rb te ca dr lo la lp row' := by
  have hR0 := hR
  obtain ⟨⟨⟨⟨⟨s0, s1, s2⟩, s4, s5, s6, s7, s8⟩, s9, s10, s11, s12, s13, s14, s15⟩, ⟨⟨⟨n1, n2⟩, ⟨n3, n4⟩, ⟨n5, n6⟩, n7, n8⟩, w4, c8, c48⟩, hBl, hf, hd⟩, ⟨hKe, hQu, hNu⟩, hTo, hb1, hb2, hb3, hb4, p, hp1, hp2⟩ := hR
  have e1 : mX0_clean holds count free dirty (set 0) = (nI (pcnt (pcl C 0 p holds) (-1) C), nI (pcnt (pcl C 0 p holds) (-2) C), pcl C 0 p holds) := by
    unfold mX0_clean
    rw [hf, hd, hp2]
    have := pcl_class (count := count) (p0 := nI p) c48 49 0 p holds (Nat.zero_le _) (by omega) hp1 (fun j hj => absurd hj (Nat.not_lt_zero _))
    rw [Nat.sub_zero] at this
    exact this
  have e2 : mX8_sweep row = pem row (pcl C 0 p holds) C := by
    unfold mX8_sweep
    rw [pl_lit0, ← s0, hp2]
    have := pcl_ref (row := row) c48 n6 49 0 p holds (Nat.zero_le _) (by omega) hp1
    rw [Nat.sub_zero, pem_self hBl] at this
    exact this
  refine ⟨_, _, _, _, e1, e2, R_blocks hR0 (fun v hv b hb => ?_) (fun b hb => ?_)⟩
  · rcases pcl_one C 0 p holds b with q | ⟨q1, q2⟩
    · rw [q]
    · rw [q1, q2]
      have z1 := pz_1
      have z2 := pz_2
      exact ⟨fun z => by rw [← z] at hv; omega, fun z => by rw [← z] at hv; omega⟩
  · rcases pcl_one C 0 p holds b with q | ⟨q1, q2⟩
    · rw [q]; exact (hNu.2.2 b hb).1
    · rw [q2, pz_1]; omega
end
