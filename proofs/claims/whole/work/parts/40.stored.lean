/-! PURE: .. on both sides -/
noncomputable def pks (kc : Nat → Int32) (K : Nat) (num pic size came del low : Int32) : Nat → Int32 :=
  upd (upd (upd (upd (upd (upd (upd kc (7 * K) num) (7 * K + 1) pic) (7 * K + 2) size) (7 * K + 3) came) (7 * K + 4) (if K = 0 then -1 else mX7_difference (kc (7 * (K - 1) + 1)) pic)) (7 * K + 5) del) (7 * K + 6) low
theorem r_measure2 {fc : Nat → Int32} {K : Nat} (hK : K < 48) : mX1_measureChange 336 fc (nI (K + 1)) (nI K) = upd fc (7 * K + 4) (if K = 0 then -1 else mX7_difference (fc (7 * (K - 1) + 1)) (fc (7 * K + 1))) := by
  unfold mX1_measureChange
  have e4 : (4 : Int32) = nI 4 := rfl
  have e1 : (1 : Int32) = nI 1 := rfl
  by_cases h0 : K = 0
  · subst h0
    rw [if_pos (show nI 0 = 0 from rfl), if_pos rfl, e4, pg_put (K := 0 + 1) (a := 0) (w := 4) (by decide) (by omega) (by omega) (by omega)]
  · rw [if_neg (nI_ne0 (by omega) (by omega)), if_neg h0, pg_has (by omega) (by omega), if_neg (by decide)]
    have z : nI K - 1 = nI (K - 1) := pk_sub (a := K) (b := 1) (by omega)
    rw [z, e1, pg_get (K := K + 1) (by decide) (by omega) (by omega) (by omega), pg_get (K := K + 1) (by decide) (by omega) (by omega) (by omega)]
    dsimp only
    rw [e4, pg_put (K := K + 1) (by decide) (by omega) (by omega) (by omega)]
section
variable {Bd K W C B : Nat} {set holds : Nat → Int32} {count free dirty : Int32} {kc : Nat → Int32} {kl : Int32} {qc : Nat → Int32} {ql : Int32} {told : Nat → Int32} {rt rc rl rs re rb te ca dr lo la lp : Int32} {row : Nat → Int32}
theorem r_storeFirst {n : Nat} {low f' : Int32} {h' : Nat → Int32} (hK : K < 48) (hW : 1 ≤ W ∧ W ≤ 4) (ht : mX0_take holds count free dirty (qc 0) (qc 2) = (low, f', h')) :
    mX5_storeFirst set holds count free dirty kc (nI K) qc (nI W) told rt rc rl rs re rb te ca dr lo la lp = (if te ≤ qc 3 then la else la + 1, f', h', nI (K + 1), pks kc K (qc 0) (qc 1) (qc 2) (qc 3) (te - qc 3) low, nI (W - 1), va_cpy qc qc 7 0 (7 * W - 7), rs + 1) := by
  unfold mX5_storeFirst
  have z0 : (0 : Int32) = nI 0 := rfl
  have a0 : mX1_get 28 qc (nI W) 0 0 = qc 0 := pg_get (a := 0) (w := 0) (by decide) (by omega) (by omega) (by omega)
  have a1 : mX1_get 28 qc (nI W) 0 1 = qc 1 := pg_get (a := 0) (w := 1) (by decide) (by omega) (by omega) (by omega)
  have a2 : mX1_get 28 qc (nI W) 0 2 = qc 2 := pg_get (a := 0) (w := 2) (by decide) (by omega) (by omega) (by omega)
  have a3 : mX1_get 28 qc (nI W) 0 3 = qc 3 := pg_get (a := 0) (w := 3) (by decide) (by omega) (by omega) (by omega)
  have a4 : ∀ (fc : Nat → Int32) (v : Int32), mX1_put 336 fc (nI (K + 1)) (nI K) 5 v = upd fc (7 * K + 5) v := fun fc v => pg_put (w := 5) (by decide) (by omega) (by omega) (by omega)
  have a5 : ∀ (fc : Nat → Int32) (v : Int32), mX1_put 336 fc (nI (K + 1)) (nI K) 6 v = upd fc (7 * K + 6) v := fun fc v => pg_put (w := 6) (by decide) (by omega) (by omega) (by omega)
  have a6 : mX1_remove 28 qc (nI W) 0 = (nI (W - 1), va_cpy qc qc 7 0 (7 * W - 7)) := pg_remove (d := 0) (by decide) (by omega) (by omega)
  rw [a0, a1, a2, a3]
  dsimp only
  rw [pg_add (by decide) (by omega)]
  dsimp only
  rw [r_measure2 hK, ht, a6]
  dsimp only
  rw [a4, a5]
  have e : pks kc K (qc 0) (qc 1) (qc 2) (qc 3) (te - qc 3) low = upd (upd (upd (upd (upd (upd (upd kc (7 * K) (qc 0)) (7 * K + 1) (qc 1)) (7 * K + 2) (qc 2)) (7 * K + 3) (qc 3)) (7 * K + 4) (if K = 0 then -1 else mX7_difference (upd (upd (upd (upd kc (7 * K) (qc 0)) (7 * K + 1) (qc 1)) (7 * K + 2) (qc 2)) (7 * K + 3) (qc 3) (7 * (K - 1) + 1)) (upd (upd (upd (upd kc (7 * K) (qc 0)) (7 * K + 1) (qc 1)) (7 * K + 2) (qc 2)) (7 * K + 3) (qc 3) (7 * K + 1)))) (7 * K + 5) (te - qc 3)) (7 * K + 6) low := by
    unfold pks
    by_cases h0 : K = 0
    · rw [if_pos h0, if_pos h0]
    · rw [if_neg h0, if_neg h0]
      simp (disch := omega) only [pu_ne, pu_eq']
  rw [← e]
  by_cases c : te ≤ qc 3
  · rw [if_pos c, if_pos c]
  · rw [if_neg c, if_neg c]
set_option maxHeartbeats 2000000 in
theorem R_store {n : Nat} (hR : RR Bd K W C B set holds count free dirty kc kl qc ql told rt rc rl rs re rb te ca dr lo la lp row) (hB : Bd < 1000000000) (hW : 1 ≤ W) (hn : row 309 = nI n) (hfree : n ≤ pcnt holds (-1) C) :
    ∃ la' free' holds' kc' qc' row', mX5_storeFirst set holds count free dirty kc kl qc ql told rt rc rl rs re rb te ca dr lo la lp = (la', free', holds', nI (K + 1), kc', nI (W - 1), qc', rs + 1) ∧ mX8_store row = row' ∧
      RR Bd (K + 1) (W - 1) C B set holds' count free' dirty kc' (nI (K + 1)) qc' (nI (W - 1)) told rt rc rl (rs + 1) re rb te ca dr lo la' lp row' := by
  obtain ⟨⟨⟨⟨⟨s0, s1, s2⟩, s4, s5, s6, s7, s8⟩, s9, s10, s11, s12, s13, s14, s15⟩, ⟨⟨⟨n1, n2⟩, ⟨n3, n4⟩, ⟨n5, n6⟩, n7, n8⟩, w4, c8, c48⟩, hBl, hfr, hdi⟩, ⟨hKe, hQu, hNu⟩, hTo, hBd⟩ := hR
  have z1 := pz_1
  have z2 := pz_2
  obtain ⟨g1, ⟨n', g2, g3, g4⟩, g5, g6⟩ := hQu 0 (by omega)
  have hnn : n' = n := by
    have z := g2.symm.trans hn
    have z3 := congrArg Int32.toInt z
    rw [fc_nI (by omega), fc_nI (by have := pcnt_le holds (-1) C; omega)] at z3
    omega
  subst hnn
  have hK : K < C := RK47 hKe hNu (by omega)
  have hn0 : ∀ i, i < K + W → 0 ≤ (pnum row K i).toInt := fun i hi => (hNu.2.1 i hi).1
  have hnk : ∀ i, i < K → pnum row K i = row (67 + 5 * i) := fun i hi => by unfold pnum; rw [if_pos hi]
  have hnK : pnum row K K = row 307 := by unfold pnum; rw [if_neg (by omega), Nat.sub_self]
  have v0 : 0 ≤ (row 307).toInt := by have := hn0 K (by omega); rw [hnK] at this; exact this
  have v1 : row 307 ≠ -1 := fun z => by rw [z] at v0; omega
  have v2 : row 307 ≠ -2 := fun z => by rw [z] at v0; omega
  have q0 : qc 0 = row 307 := g1 0 (by omega)
  have q1 : qc 1 = row 308 := g1 1 (by omega)
  have q2 : qc 2 = row 309 := g1 2 (by omega)
  have q3 : qc 3 = row 310 := g1 3 (by omega)
  have fresh : ∀ b, b < C → holds b ≠ row 307 := fun b hb => by have := (hNu.2.2 b hb).2 K (Nat.le_refl _) (by omega); rw [hnK] at this; exact this
  -- the class takes blocks
  obtain ⟨low, ht, hlow⟩ := ptk_class (C := C) (dirty := dirty) (p1 := qc 2) (v := qc 0) c48 (by rw [q0]; exact v1) 49 0 n' (-1) holds (Nat.zero_le _) (by omega) (by omega) (by show n' + 0 ≤ _; omega) (Or.inl ⟨rfl, fun j hj => absurd hj (Nat.not_lt_zero _)⟩) (fun j _ hj => by rw [q0]; exact fresh j hj)
  rw [Nat.sub_zero] at ht hlow
  have ht2 : mX0_take holds count free dirty (qc 0) (qc 2) = (low, nI (pcnt (ptk C 0 n' (qc 0) holds) (-1) C), ptk C 0 n' (qc 0) holds) := by
    unfold mX0_take
    rw [n5, hfr]
    have e : qc 2 = nI n' := q2.trans hn
    rw [← ht]
    congr 1
  rw [q0] at ht2 hlow
  have ht3 : mX0_take holds count free dirty (qc 0) (qc 2) = (low, nI (pcnt (ptk C 0 n' (row 307) holds) (-1) C), ptk C 0 n' (row 307) holds) := by rw [q0]; exact ht2
  have g5' : 0 ≤ (row 310).toInt := g5
  have g6' : (row 310).toInt ≤ te.toInt := g6
  have hcnt := ptk_cnt (C := C) (v := row 307) v1 C 0 n' holds (by omega) (by show n' + 0 ≤ _; omega)
  have hpat : ∀ w : Int32, w ≠ -1 → w ≠ row 307 → pat holds (ptk C 0 n' (row 307) holds) w C := fun w h1 h2 => ptk_pat h1 h2
  have hone := ptk_one C 0 n' (row 307) holds
  have e1 := r_storeFirst (set := set) (holds := holds) (count := count) (free := free) (dirty := dirty) (qc := qc) (kc := kc) (told := told) (rt := rt) (rc := rc) (rl := rl) (rs := rs) (re := re) (rb := rb) (te := te) (ca := ca) (dr := dr) (lo := lo) (la := la) (lp := lp) (n := n') (show K < 48 by omega) ⟨hW, w4⟩ ht3
  have e2 := r_store (n := n') c48 (show K < 48 by omega) ⟨hW, w4⟩ n6 n2 n4 hn (by omega) hBl
  rw [n1, n3]
  refine ⟨_, _, _, _, _, _, e1, e2, ?_⟩
  generalize hh : ptk C 0 n' (row 307) holds = holds' at hlow hcnt hpat hone ⊢
  rw [q0, q1, q2, q3]
  -- what the row reads behind it
  generalize hr : pF (pem (pG row K) holds' C) K W = row'
  have hdel : (te - row 310).toInt = te.toInt - (row 310).toInt := fc_sub (by have := hBd.1; omega) (by have := hBd.1; omega)
  have l0 : (0 : Int32).toInt = 0 := by decide
  have hlate : (if te ≤ row 310 then la else la + 1) = row' 8 := by
    rw [← hr]
    unfold pF pG
    simp (disch := omega) only [pu_ne, pu_eq', pk_cpy_out, pem_out]
    rw [← s4, ← s8]
    by_cases c : te ≤ row 310
    · rw [if_pos c, if_pos]
      rw [fc_le] at c ⊢; omega
    · rw [if_neg c, if_neg]
      rw [fc_le] at c ⊢; omega
  have rd : ∀ j, j < 8 ∨ (8 < j ∧ j < 12) ∨ (12 < j ∧ j < 16) ∨ j = 18 ∨ (67 ≤ j ∧ j < 67 + 5 * K) ∨ 327 ≤ j → row' j = row j := by
    intro j hj
    rw [← hr]
    unfold pF pG
    simp (disch := omega) only [pu_ne, pk_cpy_out, pem_out]
  have r12 : row' 12 = row 12 + 1 := by
    rw [← hr]
    unfold pF pG
    simp (disch := omega) only [pu_ne, pu_eq', pk_cpy_out, pem_out]
  have r16 : row' 16 = nI (K + 1) := by
    rw [← hr]
    unfold pF
    simp (disch := omega) only [pu_ne, pu_eq', pk_cpy_out]
  have r17 : row' 17 = nI (W - 1) := by
    rw [← hr]
    unfold pF
    simp (disch := omega) only [pu_ne, pu_eq', pk_cpy_out]
  have rb1 : ∀ b, b < C → row' (19 + b) = holds' b := by
    intro b hb
    rw [← hr]
    unfold pF
    simp (disch := omega) only [pu_ne, pk_cpy_out]
    exact pem_in hb
  have rK : ∀ w, w < 4 → row' (67 + 5 * K + w) = row (307 + w) := by
    intro w hw
    rw [← hr]
    unfold pF pG
    simp (disch := omega) only [pu_ne, pk_cpy_out, pem_out]
    rw [pk_cpy_in (by omega) (by omega)]
    congr 1; omega
  have rK4 : row' (67 + 5 * K + 4) = te - row 310 := by
    rw [← hr]
    unfold pF pG
    simp (disch := omega) only [pu_ne, pu_eq', pk_cpy_out, pem_out]
    rw [s4]
  have rq : ∀ i w, i + 1 < W → w < 4 → row' (307 + 4 * i + w) = row (307 + 4 * (i + 1) + w) := by
    intro i w hi hw
    rw [← hr]
    unfold pF pG
    rw [pk_cpy_in (by omega) (by omega)]
    simp (disch := omega) only [pu_ne, pk_cpy_out, pem_out]
    exact congrArg row (by omega)
  have hks : ∀ j, j < 7 * K → pks kc K (row 307) (row 308) (row 309) (row 310) (te - row 310) low j = kc j := by
    intro j hj
    unfold pks
    simp (disch := omega) only [pu_ne]
  have rn : ∀ i, i < K + W → pnum row' (K + 1) i = pnum row K i := by
    intro i hi
    unfold pnum
    rcases Nat.lt_trichotomy i K with q | q | q
    · rw [if_pos (by omega), if_pos q, rd _ (by omega)]
    · subst q
      rw [if_pos (by omega), if_neg (by omega), Nat.sub_self]
      exact rK 0 (by omega)
    · rw [if_neg (by omega), if_neg (by omega)]
      have := rq (i - (K + 1)) 0 (by omega) (by omega)
      rw [Nat.add_zero, Nat.add_zero] at this
      rw [this]
      exact congrArg row (by omega)
  refine ⟨⟨⟨⟨⟨?_, ?_, ?_⟩, ?_, ?_, ?_, ?_, hlate⟩, ?_, ?_, ?_, ?_, ?_, ?_, ?_⟩, ⟨⟨⟨rfl, r16⟩, ⟨rfl, r17⟩, ⟨n5, ?_⟩, n7, ?_⟩, by omega, c8, c48⟩, ⟨fun b hb => (rb1 b hb).symm, rfl, ?_⟩⟩, ⟨?_, ?_, ?_⟩, hTo.cong (fun j h1 h2 => rd _ (by omega)), hBd⟩
  case refine_17 => rw [hdi, (hpat (-2) (by decide) (fun z => v2 z.symm)).cnt]
  case refine_18 =>
    intro i hi
    rcases Nat.lt_or_ge i K with q | q
    · obtain ⟨h1, h2, h3, m1, m2, h4, h5, h6, h7, h8, h9⟩ := hKe i q
      have hge : 0 ≤ (row (67 + 5 * i)).toInt := by have := hn0 i (by omega); rw [hnk i q] at this; exact this
      have hne : row (67 + 5 * i) ≠ row 307 := by
        intro z
        have := hNu.1 i K q (by omega)
        rw [hnk i q, hnK, z] at this; omega
      have hp := hpat (row (67 + 5 * i)) (fun z => by rw [z] at hge; omega) hne
      refine ⟨fun w hw => by rw [hks _ (by omega), rd _ (by omega)]; exact h1 w hw, by rw [hks _ (by omega), rd _ (by omega)]; exact h2, ?_, m1, m2, by rw [rd _ (by omega)]; exact h4, h5, h6, by rw [rd _ (by omega), ← hp.cnt]; exact h7, by rw [rd _ (by omega)]; exact h8.pat hp, by rw [hks _ (by omega)]; exact h9⟩
      rw [hks _ (by omega), h3]
      by_cases q0 : i = 0
      · rw [if_pos q0, if_pos q0]
      · rw [if_neg q0, if_neg q0, rd _ (by omega), rd _ (by omega)]
    · have : i = K := by omega
      subst this
      have rK0 : row' (67 + 5 * i) = row 307 := rK 0 (by omega)
      have hc : pcnt holds' (row 307) C = n' := by
        rw [hcnt.1, pcnt_0.mpr fresh]; omega
      have hlow2 : ∃ m, low = nI m ∧ plow holds' (row 307) C m := by
        rcases hlow with ⟨-, y⟩ | y
        · have := pcnt_0.mpr y
          omega
        · exact y
      obtain ⟨m, m1, m2⟩ := hlow2
      refine ⟨fun w hw => ?_, ?_, ?_, n', m, by rw [rK 2 (by omega)]; exact hn, g3, g4, by rw [rK0]; exact hc, by rw [rK0]; exact m2, ?_⟩
      · rw [rK w hw]
        unfold pks
        match w, hw with
        | 0, _ => simp (disch := omega) only [pu_ne, pu_eq']
        | 1, _ => simp (disch := omega) only [pu_ne, pu_eq']
        | 2, _ => simp (disch := omega) only [pu_ne, pu_eq']
        | 3, _ => simp (disch := omega) only [pu_ne, pu_eq']
      · rw [rK4]
        unfold pks
        simp (disch := omega) only [pu_ne, pu_eq']
      · unfold pks
        simp (disch := omega) only [pu_ne, pu_eq']
        by_cases q0 : i = 0
        · rw [if_pos q0, if_pos q0]
        · rw [if_neg q0, if_neg q0, rK 1 (by omega), rd _ (by omega), (hKe (i - 1) (by omega)).1 1 (by omega)]
      · unfold pks
        simp (disch := omega) only [pu_eq']
        exact m1
  case refine_19 =>
    intro i hi
    obtain ⟨h1, ⟨m1, h2, h3⟩, h4, h5⟩ := hQu (i + 1) (by omega)
    refine ⟨fun w hw => ?_, ⟨m1, by rw [rq i 2 (by omega) (by omega)]; exact h2, h3⟩, by rw [rq i 3 (by omega) (by omega)]; exact h4, by rw [rq i 3 (by omega) (by omega)]; exact h5⟩
    rw [rq i w (by omega) hw, ← h1 w hw, pk_cpy_in (by omega) (by omega)]
    congr 1; omega
  case refine_20 =>
    obtain ⟨h1, h2, h3⟩ := hNu
    refine ⟨fun i j hij hj => ?_, fun i hi => ?_, fun b hb => ⟨?_, fun i a1 a2 => ?_⟩⟩
    · rw [rn i (by omega), rn j (by omega)]; exact h1 i j hij (by omega)
    · rw [rn i (by omega)]; exact h2 i (by omega)
    · rcases hone b with y | ⟨-, y⟩
      · rw [y]; exact (h3 b hb).1
      · rw [y, ← hnK]; exact (h2 K (by omega)).2
    · rw [rn i (by omega)]
      rcases hone b with y | ⟨-, y⟩
      · rw [y]; exact (h3 b hb).2 i (by omega) (by omega)
      · rw [y, ← hnK]
        intro z
        have := h1 K i (by omega) (by omega)
        rw [z] at this
        omega
  all_goals first
    | (rw [rd _ (by omega)]; assumption)
    | (rw [r12, s12])
end
