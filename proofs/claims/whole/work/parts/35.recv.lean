/-! PURE: what is left alone stays; a frame comes -/
theorem RBl.cong {C : Nat} {holds : Nat → Int32} {free dirty : Int32} {row row' : Nat → Int32} (h : RBl C holds free dirty row) (e : ∀ b, b < C → row' (19 + b) = row (19 + b)) : RBl C holds free dirty row' :=
  ⟨fun b hb => by rw [e b hb]; exact h.1 b hb, h.2⟩
theorem RKe.cong {K C : Nat} {holds kc row row' : Nat → Int32} (h : RKe K C holds kc row) (e : ∀ j, 67 ≤ j → j < 67 + 5 * K → row' j = row j) : RKe K C holds kc row' := by
  intro i hi
  obtain ⟨h1, h2, h3, n, m, h4, h5, h6, h7, h8, h9⟩ := h i hi
  refine ⟨fun w hw => by rw [e _ (by omega) (by omega)]; exact h1 w hw, by rw [e _ (by omega) (by omega)]; exact h2, ?_, n, m, by rw [e _ (by omega) (by omega)]; exact h4, h5, h6, by rw [e _ (by omega) (by omega)]; exact h7, by rw [e _ (by omega) (by omega)]; exact h8, h9⟩
  rw [h3]
  by_cases q : i = 0
  · rw [if_pos q, if_pos q]
  · rw [if_neg q, if_neg q, e _ (by omega) (by omega), e _ (by omega) (by omega)]
theorem RQu.cong {W : Nat} {te te' : Int32} {qc row row' : Nat → Int32} (h : RQu W te qc row) (e : ∀ j, 307 ≤ j → j < 307 + 4 * W → row' j = row j) (ht : te.toInt ≤ te'.toInt) : RQu W te' qc row' := by
  intro i hi
  obtain ⟨h1, ⟨n, h2, h3⟩, h4, h5⟩ := h i hi
  exact ⟨fun w hw => by rw [e _ (by omega) (by omega)]; exact h1 w hw, ⟨n, by rw [e _ (by omega) (by omega)]; exact h2, h3⟩, by rw [e _ (by omega) (by omega)]; exact h4, by rw [e _ (by omega) (by omega)]; omega⟩
theorem pnum_cong {K W i : Nat} {row row' : Nat → Int32} (hi : i < K + W) (e : ∀ j, 67 ≤ j → j < 67 + 5 * K → row' j = row j) (e2 : ∀ j, 307 ≤ j → j < 307 + 4 * W → row' j = row j) : pnum row' K i = pnum row K i := by
  unfold pnum
  by_cases q : i < K
  · rw [if_pos q, if_pos q, e _ (by omega) (by omega)]
  · rw [if_neg q, if_neg q, e2 _ (by omega) (by omega)]
theorem RNu.cong {K W C : Nat} {ca ca' : Int32} {holds row row' : Nat → Int32} (h : RNu K W C ca holds row) (e : ∀ j, 67 ≤ j → j < 67 + 5 * K → row' j = row j) (e2 : ∀ j, 307 ≤ j → j < 307 + 4 * W → row' j = row j) (hc : ca.toInt ≤ ca'.toInt) : RNu K W C ca' holds row' := by
  obtain ⟨h1, h2, h3⟩ := h
  refine ⟨fun i j hij hj => ?_, fun i hi => ?_, fun b hb => ⟨by have := (h3 b hb).1; omega, fun i q1 q2 => ?_⟩⟩
  · rw [pnum_cong (by omega) e e2, pnum_cong hj e e2]; exact h1 i j hij hj
  · rw [pnum_cong hi e e2]; have := h2 i hi; omega
  · rw [pnum_cong q2 e e2]; exact (h3 b hb).2 i q1 q2
theorem RTo.cong {B : Nat} {told row row' : Nat → Int32} (h : RTo B told row) (e : ∀ j, 327 ≤ j → j < 357 → row' j = row j) : RTo B told row' := by
  intro k hk j hj
  rw [e _ (by omega) (by omega)]; exact h k hk j hj
theorem RBd.mono {Bd Bd' B : Nat} {te ca lp : Int32} {set : Nat → Int32} (h : RBd Bd B te ca lp set) (hb : Bd ≤ Bd') : RBd Bd' B te ca lp set := by
  obtain ⟨h1, h2, h3, h4, h5⟩ := h
  exact ⟨by omega, by omega, by omega, h4, h5⟩
/-- no more kept frames than blocks -/
theorem RK48 {K W C : Nat} {ca : Int32} {holds kc row : Nat → Int32} (hk : RKe K C holds kc row) (hn : RNu K W C ca holds row) : K ≤ C := by
  have : ∀ i, ∃ m, i < K → plow holds (row (67 + 5 * i)) C m := fun i => by
    by_cases q : i < K
    · obtain ⟨-, -, -, n, m, -, -, -, -, h8, -⟩ := hk i q
      exact ⟨m, fun _ => h8⟩
    · exact ⟨0, fun z => absurd z q⟩
  obtain ⟨f, hf⟩ := Classical.axiomOfChoice this
  refine ppig C K f (fun i hi => (hf i hi).1) (fun i j hij hj => ?_)
  intro e
  have a1 := (hf i (by omega)).2.1
  have a2 := (hf j hj).2.1
  rw [e, a2] at a1
  have := hn.1 i j hij (by omega)
  unfold pnum at this
  rw [if_pos (by omega), if_pos hj, a1] at this
  omega
section
variable {Bd K W C B : Nat} {set holds : Nat → Int32} {count free dirty : Int32} {kc : Nat → Int32} {kl : Int32} {qc : Nat → Int32} {ql : Int32} {told : Nat → Int32} {rt rc rl rs re rb te ca dr lo la lp : Int32} {row : Nat → Int32}
theorem R_receive_full {p0 : Int32} (hR : RR Bd K 4 C B set holds count free dirty kc kl qc ql told rt rc rl rs re rb te ca dr lo la lp row) (hp : 0 ≤ p0.toInt) (hB : Bd < 1000000000) :
    mX5_receive set holds count free dirty kc kl qc ql told rt rc rl rs re rb te ca dr lo la lp p0 = (-1, ca + 1, lo + 1, p0, ql, qc, rc + 1, rl + 1) ∧ ∃ row', mX8_shootIn row p0 = (-1, row') ∧
      RR (Bd + 1) K 4 C B set holds count free dirty kc kl qc ql told rt (rc + 1) (rl + 1) rs re rb te (ca + 1) dr (lo + 1) la p0 row' := by
  obtain ⟨⟨⟨⟨⟨s0, s1, s2⟩, s4, s5, s6, s7, s8⟩, s9, s10, s11, s12, s13, s14, s15⟩, ⟨⟨⟨n1, n2⟩, ⟨n3, n4⟩, ⟨n5, n6⟩, n7, n8⟩, w4, c8, c48⟩, hBl⟩, ⟨hKe, hQu, hNu⟩, hTo, hBd⟩ := hR
  have hK := RK48 hKe hNu
  subst n3
  refine ⟨r_recv_full, _, r_shoot_full n4, ?_⟩
  obtain ⟨b1, b2, b3, b4, b5⟩ := hBd
  have i1 := pp_inc b2 (by omega)
  have hca : ca.toInt ≤ (ca + 1).toInt := by omega
  generalize hr : upd (upd (upd (upd (upd row 5 (row 5 + 1)) 13 (row 13 + 1)) 15 p0) 7 (row 7 + 1)) 14 (row 14 + 1) = row'
  have rd : ∀ j, j ≠ 5 ∧ j ≠ 13 ∧ j ≠ 15 ∧ j ≠ 7 ∧ j ≠ 14 → row' j = row j := by
    intro j hj
    rw [← hr]
    simp (disch := omega) only [pu_ne]
  have q5 : row' 5 = row 5 + 1 := by rw [← hr]; simp (disch := omega) only [pu_ne, pu_eq']
  have q13 : row' 13 = row 13 + 1 := by rw [← hr]; simp (disch := omega) only [pu_ne, pu_eq']
  have q15 : row' 15 = p0 := by rw [← hr]; simp (disch := omega) only [pu_ne, pu_eq']
  have q7 : row' 7 = row 7 + 1 := by rw [← hr]; simp (disch := omega) only [pu_ne, pu_eq']
  have q14 : row' 14 = row 14 + 1 := by rw [← hr]; simp (disch := omega) only [pu_ne, pu_eq']
  refine ⟨⟨⟨⟨⟨?_, ?_, ?_⟩, ?_, ?_, ?_, ?_, ?_⟩, ?_, ?_, ?_, ?_, ?_, ?_, ?_⟩, ⟨⟨⟨n1, ?_⟩, ⟨rfl, ?_⟩, ⟨n5, ?_⟩, n7, ?_⟩, w4, c8, c48⟩, hBl.cong (fun b hb => rd _ (by omega))⟩, ⟨hKe.cong (fun j h1 h2 => rd _ (by omega)), hQu.cong (fun j h1 h2 => rd _ (by omega)) (by omega), hNu.cong (fun j h1 h2 => rd _ (by omega)) (fun j h1 h2 => rd _ (by omega)) hca⟩, hTo.cong (fun j h1 h2 => rd _ (by omega)), ⟨by omega, by omega, by omega, Or.inr hp, b5⟩⟩
  all_goals first
    | (rw [rd _ (by omega)]; assumption)
    | (rw [q5, s5])
    | (rw [q7, s7])
    | (rw [q13, s13])
    | (rw [q14, s14])
    | (rw [q15])
theorem R_receive {p0 : Int32} (hR : RR Bd K W C B set holds count free dirty kc kl qc ql told rt rc rl rs re rb te ca dr lo la lp row) (hW : W < 4) (hp : 0 ≤ p0.toInt) (hB : Bd < 1000000000) :
    ∃ qc' row', mX5_receive set holds count free dirty kc kl qc ql told rt rc rl rs re rb te ca dr lo la lp p0 = (ca, ca + 1, lo, p0, nI (W + 1), qc', rc + 1, rl) ∧ mX8_shootIn row p0 = (ca, row') ∧
      RR (Bd + 1) K (W + 1) C B set holds count free dirty kc kl qc' (nI (W + 1)) told rt (rc + 1) rl rs re rb te (ca + 1) dr lo la p0 row' := by
  obtain ⟨⟨⟨⟨⟨s0, s1, s2⟩, s4, s5, s6, s7, s8⟩, s9, s10, s11, s12, s13, s14, s15⟩, ⟨⟨⟨n1, n2⟩, ⟨n3, n4⟩, ⟨n5, n6⟩, n7, n8⟩, w4, c8, c48⟩, hBl⟩, ⟨hKe, hQu, hNu⟩, hTo, hBd⟩ := hR
  have hK := RK48 hKe hNu
  subst n3
  obtain ⟨b1, b2, b3, b4, b5⟩ := hBd
  refine ⟨_, _, r_recv hW, by rw [s5]; exact r_shoot hW n4, ?_⟩
  have i1 := pp_inc b2 (by omega)
  have hca : ca.toInt ≤ (ca + 1).toInt := by omega
  obtain ⟨z, z1, z2, z3⟩ := psz_rng (p0 := p0) b4 hp
  rw [← s15, ← s4, ← s5]
  generalize hr : upd (upd (upd (upd (upd (upd (upd (upd row 5 (ca + 1)) 13 (row 13 + 1)) 15 p0) (307 + 4 * W) ca) (307 + 4 * W + 1) p0) (307 + 4 * W + 2) (psz lp p0)) (307 + 4 * W + 3) te) 17 (nI (W + 1)) = row'
  generalize hq : upd (upd (upd (upd qc (7 * W) ca) (7 * W + 1) p0) (7 * W + 2) (psz lp p0)) (7 * W + 3) te = qc'
  have rd : ∀ j, j ≠ 5 ∧ j ≠ 13 ∧ j ≠ 15 ∧ j ≠ 17 ∧ (j < 307 + 4 * W ∨ 307 + 4 * W + 3 < j) → row' j = row j := by
    intro j hj
    rw [← hr]
    simp (disch := omega) only [pu_ne]
  have rq : ∀ j, j < 7 * W → qc' j = qc j := by
    intro j hj
    rw [← hq]
    simp (disch := omega) only [pu_ne]
  have q5 : row' 5 = ca + 1 := by rw [← hr]; simp (disch := omega) only [pu_ne, pu_eq']
  have q13 : row' 13 = row 13 + 1 := by rw [← hr]; simp (disch := omega) only [pu_ne, pu_eq']
  have q15 : row' 15 = p0 := by rw [← hr]; simp (disch := omega) only [pu_ne, pu_eq']
  have q17 : row' 17 = nI (W + 1) := by rw [← hr]; simp (disch := omega) only [pu_ne, pu_eq']
  have qa : row' (307 + 4 * W) = ca := by rw [← hr]; simp (disch := omega) only [pu_ne, pu_eq']
  have qb : row' (307 + 4 * W + 1) = p0 := by rw [← hr]; simp (disch := omega) only [pu_ne, pu_eq']
  have qc1 : row' (307 + 4 * W + 2) = psz lp p0 := by rw [← hr]; simp (disch := omega) only [pu_ne, pu_eq']
  have qd : row' (307 + 4 * W + 3) = te := by rw [← hr]; simp (disch := omega) only [pu_ne, pu_eq']
  have ka : qc' (7 * W) = ca := by rw [← hq]; simp (disch := omega) only [pu_ne, pu_eq']
  have kb : qc' (7 * W + 1) = p0 := by rw [← hq]; simp (disch := omega) only [pu_ne, pu_eq']
  have kc1 : qc' (7 * W + 2) = psz lp p0 := by rw [← hq]; simp (disch := omega) only [pu_ne, pu_eq']
  have kd : qc' (7 * W + 3) = te := by rw [← hq]; simp (disch := omega) only [pu_ne, pu_eq']
  have hpn : ∀ i, i < K + W → pnum row' K i = pnum row K i := fun i hi => pnum_cong hi (fun j h1 h2 => rd _ (by omega)) (fun j h1 h2 => rd _ (by omega))
  have hpl : pnum row' K (K + W) = ca := by
    unfold pnum
    rw [if_neg (by omega), Nat.add_sub_cancel_left, qa]
  refine ⟨⟨⟨⟨⟨?_, ?_, ?_⟩, ?_, ?_, ?_, ?_, ?_⟩, ?_, ?_, ?_, ?_, ?_, ?_, ?_⟩, ⟨⟨⟨n1, ?_⟩, ⟨rfl, ?_⟩, ⟨n5, ?_⟩, n7, ?_⟩, by omega, c8, c48⟩, hBl.cong (fun b hb => rd _ (by omega))⟩, ⟨hKe.cong (fun j h1 h2 => rd _ (by omega)), ?_, ?_⟩, hTo.cong (fun j h1 h2 => rd _ (by omega)), ⟨by omega, by omega, by omega, Or.inr hp, b5⟩⟩
  case refine_20 =>
    intro i hi
    rcases Nat.lt_or_ge i W with z | z
    · obtain ⟨h1, ⟨n, h2, h3⟩, h4, h5⟩ := hQu i z
      exact ⟨fun w hw => by rw [rd _ (by omega), rq _ (by omega)]; exact h1 w hw, ⟨n, by rw [rd _ (by omega)]; exact h2, h3⟩, by rw [rd _ (by omega)]; exact h4, by rw [rd _ (by omega)]; exact h5⟩
    · have : i = W := by omega
      subst this
      refine ⟨fun w hw => ?_, ⟨_, by rw [qc1]; exact z1, z2, z3⟩, by rw [qd]; exact b1.1, by rw [qd]; exact Int.le_refl _⟩
      match w, hw with
      | 0, _ => rw [Nat.add_zero, Nat.add_zero, ka, qa]
      | 1, _ => rw [kb, qb]
      | 2, _ => rw [kc1, qc1]
      | 3, _ => rw [kd, qd]
  case refine_21 =>
    obtain ⟨h1, h2, h3⟩ := hNu
    refine ⟨fun i j hij hj => ?_, fun i hi => ?_, fun b hb => ⟨by have := (h3 b hb).1; omega, fun i q1 q2 => ?_⟩⟩
    · rcases Nat.lt_or_ge j (K + W) with z | z
      · rw [hpn i (by omega), hpn j z]; exact h1 i j hij z
      · have : j = K + W := by omega
        subst this
        rw [hpl, hpn i hij]; exact (h2 i hij).2
    · rcases Nat.lt_or_ge i (K + W) with z | z
      · rw [hpn i z]; have := h2 i z; omega
      · have : i = K + W := by omega
        subst this
        rw [hpl]; omega
    · rcases Nat.lt_or_ge i (K + W) with z | z
      · rw [hpn i z]; exact (h3 b hb).2 i q1 z
      · have : i = K + W := by omega
        subst this
        rw [hpl]
        intro e
        have := (h3 b hb).1
        rw [e] at this
        omega
  all_goals first
    | (rw [rd _ (by omega)]; assumption)
    | (rw [q5])
    | (rw [q13, s13])
    | (rw [q15])
    | (rw [q17])
end
