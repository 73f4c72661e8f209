/-! PURE: simulations and scripts, on both sides -/
section
variable {Bd K W C B : Nat} {set holds : Nat → Int32} {count free dirty : Int32} {kc : Nat → Int32} {kl : Int32} {qc : Nat → Int32} {ql : Int32} {told : Nat → Int32} {rt rc rl rs re rb te ca dr lo la lp : Int32} {row : Nat → Int32}
variable {rf ss sp ig lf ac : Int32}
variable {gset : Nat → Int32} {gholds : Nat → Int32} {gcount : Int32} {gfree : Int32} {gdirty : Int32} {gkc : Nat → Int32} {gkl : Int32} {gqc : Nat → Int32} {gql : Int32} {gtold : Nat → Int32} {grt : Int32} {grc : Int32} {grl : Int32} {grs : Int32} {gre : Int32} {grb : Int32} {gte : Int32} {gca : Int32} {gdr : Int32} {glo : Int32} {gla : Int32} {glp : Int32} {trow : Nat → Int32}
theorem P_sim_L {p0 : Int64} {p1 : Int32} {m : Nat} {row0 : Nat → Int32} (hm : p1 = nI m) (hm9 : m ≤ 99) (hdr : dr = row0 6) (hlo : lo = row0 7) : ∀ (k i : Nat) (x : Int64) (q : Int32) (gset : Nat → Int32) (gholds : Nat → Int32) (gcount : Int32) (gfree : Int32) (gdirty : Int32) (gkc : Nat → Int32) (gkl : Int32) (gqc : Nat → Int32) (gql : Int32) (gtold : Nat → Int32) (grt : Int32) (grc : Int32) (grl : Int32) (grs : Int32) (gre : Int32) (grb : Int32) (gte : Int32) (gca : Int32) (gdr : Int32) (glo : Int32) (gla : Int32) (glp : Int32) (Bd K W C B : Nat) (trow : Nat → Int32),
    RR Bd K W C B gset gholds gcount gfree gdirty gkc gkl gqc gql gtold grt grc grl grs gre grb gte gca gdr glo gla glp trow → Bd + 60 * k < 1000000000 → i ≤ m → m < i + k → 0 ≤ q.toInt ∧ q.toInt ≤ 999999 →
    ∃ (r : Int32) (z : fcSV) (trow' : Nat → Int32), mX7_simulate_L44 set holds count free dirty kc kl qc ql told rt rc rl rs re rb te ca dr lo la lp p0 p1 gset gcount k x q (nI i) gfree gdirty gholds gkl gkc gql gqc grt grc grl grs gre grb gtold glp gte gca gdr glo gla = Sum.inr (r, z) ∧ mX8_simulate_L40 ss sp ig lf ac row0 p0 p1 k x q (nI i) trow = (r, 0, trow') := by
  intro k
  induction k with
  | zero => intro i x q gset gholds gcount gfree gdirty gkc gkl gqc gql gtold grt grc grl grs gre grb gte gca gdr glo gla glp Bd K W C B trow hR hB h1 h2; omega
  | succ k ih =>
    intro i x q gset gholds gcount gfree gdirty gkc gkl gqc gql gtold grt grc grl grs gre grb gte gca gdr glo gla glp Bd K W C B trow hR hB h1 h2 hq
    have hk := RR_cnt hR
    rw [mX7_simulate_L44_s, mX7_simulate_S44, mX8_simulate_L40_s, mX8_simulate_S40, hm]
    by_cases c : i = m
    · rw [if_pos (show nI m ≤ nI i by rw [c]; exact nI_le (Nat.le_refl _) (by omega)), if_pos (show nI m ≤ nI i by rw [c]; exact nI_le (Nat.le_refl _) (by omega))]
      refine ⟨_, _, trow, rfl, ?_⟩
      have t6 : gdr = trow 6 := hR.1.1.1.2.2.2.1
      have t7 : glo = trow 7 := hR.1.1.1.2.2.2.2.1
      rw [pl_lit6, pl_lit7, pl_lit16, t6, t7, hdr, hlo, hk.1, hk.2.1]
    · rw [if_neg (nI_ge (show i < m by omega) (by omega)), if_neg (nI_ge (show i < m by omega) (by omega))]
      have hr0 := fx_ushr33 ((x * 6364136223846793005) + 1442695040888963407)
      dsimp only
      generalize ((((x * 6364136223846793005) + 1442695040888963407).toUInt64 >>> ((33 : Int32).toInt64.toUInt64 &&& Int64.toUInt64 63)).toInt64 : Int64).toInt32 = rn at hr0 ⊢
      have nxt : nI i + 1 = nI (i + 1) := nI_1 i
      have hm2 : p1 = nI m := hm
      rw [hm] at ih
      by_cases a : (rn - rn / 4 * 4) = 0
      · rw [if_pos a, if_pos a]
        by_cases d : 3 ≤ ((rn / 4) - (rn / 4) / 4 * 4)
        · rw [if_pos d, if_pos d]
          obtain ⟨n, K', W', B', te', dr', la', free', dirty', holds', kl', kc', ql', qc', rt', rc', rl', rs', re', rb', told', row', e1, e2, e3, e4, e5⟩ := P_tick1 hR (by omega)
          rw [e1, e2, mX8_simulate_C21]
          dsimp only
          rw [nxt]
          exact ih (i + 1) _ _ gset holds' gcount free' dirty' kc' kl' qc' ql' told' rt' rc' rl' rs' re' rb' te' gca dr' glo la' glp _ _ _ _ _ _ e5 (by omega) (by omega) (by omega) (fx_p1 hr0)
        · rw [if_neg d, if_neg d]
          by_cases hW : W < 4
          · obtain ⟨qc9, row9, g1, g2, g3⟩ := R_receive hR hW (fx_p1 hr0).1 (by omega)
            rw [g1, g2, mX8_simulate_C22]
            dsimp only
            obtain ⟨n, K', W', B', te', dr', la', free', dirty', holds', kl', kc', ql', qc', rt', rc', rl', rs', re', rb', told', row', e1, e2, e3, e4, e5⟩ := P_tick1 g3 (by omega)
            rw [e1, e2, mX8_simulate_C23]
            dsimp only
            rw [nxt]
            exact ih (i + 1) _ _ gset holds' gcount free' dirty' kc' kl' qc' ql' told' rt' rc' rl' rs' re' rb' te' (gca + 1) dr' glo la' ((rn / 64) - (rn / 64) / 1000000 * 1000000) _ _ _ _ _ _ e5 (by omega) (by omega) (by omega) (fx_p1 hr0)
          · obtain rfl : W = 4 := by omega
            obtain ⟨g1, row9, g2, g3⟩ := R_receive_full hR (fx_p1 hr0).1 (by omega)
            rw [g1, g2, mX8_simulate_C22]
            dsimp only
            obtain ⟨n, K', W', B', te', dr', la', free', dirty', holds', kl', kc', ql', qc', rt', rc', rl', rs', re', rb', told', row', e1, e2, e3, e4, e5⟩ := P_tick1 g3 (by omega)
            rw [e1, e2, mX8_simulate_C23]
            dsimp only
            rw [nxt]
            exact ih (i + 1) _ _ gset holds' gcount free' dirty' kc' kl' qc' ql' told' rt' rc' rl' rs' re' rb' te' (gca + 1) dr' (glo + 1) la' ((rn / 64) - (rn / 64) / 1000000 * 1000000) _ _ _ _ _ _ e5 (by omega) (by omega) (by omega) (fx_p1 hr0)
      · rw [if_neg a, if_neg a]
        by_cases a2 : (rn - rn / 4 * 4) = 1
        · rw [if_pos a2, if_pos a2]
          by_cases d : 3 ≤ ((rn / 4) - (rn / 4) / 4 * 4)
          · rw [if_pos d, if_pos d]
            obtain ⟨n, K', W', B', te', dr', la', free', dirty', holds', kl', kc', ql', qc', rt', rc', rl', rs', re', rb', told', row', e1, e2, e3, e4, e5⟩ := P_tick1 hR (by omega)
            rw [e1, e2, mX8_simulate_C17]
            dsimp only
            rw [nxt]
            exact ih (i + 1) _ _ gset holds' gcount free' dirty' kc' kl' qc' ql' told' rt' rc' rl' rs' re' rb' te' gca dr' glo la' glp _ _ _ _ _ _ e5 (by omega) (by omega) (by omega) (fx_p2 hq hr0)
          · rw [if_neg d, if_neg d]
            by_cases hW : W < 4
            · obtain ⟨qc9, row9, g1, g2, g3⟩ := R_receive hR hW (fx_p2 hq hr0).1 (by omega)
              rw [g1, g2, mX8_simulate_C18]
              dsimp only
              obtain ⟨n, K', W', B', te', dr', la', free', dirty', holds', kl', kc', ql', qc', rt', rc', rl', rs', re', rb', told', row', e1, e2, e3, e4, e5⟩ := P_tick1 g3 (by omega)
              rw [e1, e2, mX8_simulate_C19]
              dsimp only
              rw [nxt]
              exact ih (i + 1) _ _ gset holds' gcount free' dirty' kc' kl' qc' ql' told' rt' rc' rl' rs' re' rb' te' (gca + 1) dr' glo la' (((q / 10) * 10) + ((rn / 64) - (rn / 64) / 10 * 10)) _ _ _ _ _ _ e5 (by omega) (by omega) (by omega) (fx_p2 hq hr0)
            · obtain rfl : W = 4 := by omega
              obtain ⟨g1, row9, g2, g3⟩ := R_receive_full hR (fx_p2 hq hr0).1 (by omega)
              rw [g1, g2, mX8_simulate_C18]
              dsimp only
              obtain ⟨n, K', W', B', te', dr', la', free', dirty', holds', kl', kc', ql', qc', rt', rc', rl', rs', re', rb', told', row', e1, e2, e3, e4, e5⟩ := P_tick1 g3 (by omega)
              rw [e1, e2, mX8_simulate_C19]
              dsimp only
              rw [nxt]
              exact ih (i + 1) _ _ gset holds' gcount free' dirty' kc' kl' qc' ql' told' rt' rc' rl' rs' re' rb' te' (gca + 1) dr' (glo + 1) la' (((q / 10) * 10) + ((rn / 64) - (rn / 64) / 10 * 10)) _ _ _ _ _ _ e5 (by omega) (by omega) (by omega) (fx_p2 hq hr0)
        · rw [if_neg a2, if_neg a2]
          by_cases d : 3 ≤ ((rn / 4) - (rn / 4) / 4 * 4)
          · rw [if_pos d, if_pos d]
            obtain ⟨n, K', W', B', te', dr', la', free', dirty', holds', kl', kc', ql', qc', rt', rc', rl', rs', re', rb', told', row', e1, e2, e3, e4, e5⟩ := P_tick1 hR (by omega)
            rw [e1, e2, mX8_simulate_C13]
            dsimp only
            rw [nxt]
            exact ih (i + 1) _ _ gset holds' gcount free' dirty' kc' kl' qc' ql' told' rt' rc' rl' rs' re' rb' te' gca dr' glo la' glp _ _ _ _ _ _ e5 (by omega) (by omega) (by omega) (hq)
          · rw [if_neg d, if_neg d]
            by_cases hW : W < 4
            · obtain ⟨qc9, row9, g1, g2, g3⟩ := R_receive hR hW (hq).1 (by omega)
              rw [g1, g2, mX8_simulate_C14]
              dsimp only
              obtain ⟨n, K', W', B', te', dr', la', free', dirty', holds', kl', kc', ql', qc', rt', rc', rl', rs', re', rb', told', row', e1, e2, e3, e4, e5⟩ := P_tick1 g3 (by omega)
              rw [e1, e2, mX8_simulate_C15]
              dsimp only
              rw [nxt]
              exact ih (i + 1) _ _ gset holds' gcount free' dirty' kc' kl' qc' ql' told' rt' rc' rl' rs' re' rb' te' (gca + 1) dr' glo la' q _ _ _ _ _ _ e5 (by omega) (by omega) (by omega) (hq)
            · obtain rfl : W = 4 := by omega
              obtain ⟨g1, row9, g2, g3⟩ := R_receive_full hR (hq).1 (by omega)
              rw [g1, g2, mX8_simulate_C14]
              dsimp only
              obtain ⟨n, K', W', B', te', dr', la', free', dirty', holds', kl', kc', ql', qc', rt', rc', rl', rs', re', rb', told', row', e1, e2, e3, e4, e5⟩ := P_tick1 g3 (by omega)
              rw [e1, e2, mX8_simulate_C15]
              dsimp only
              rw [nxt]
              exact ih (i + 1) _ _ gset holds' gcount free' dirty' kc' kl' qc' ql' told' rt' rc' rl' rs' re' rb' te' (gca + 1) dr' (glo + 1) la' q _ _ _ _ _ _ e5 (by omega) (by omega) (by omega) (hq)
theorem P_simulate {p0 : Int64} {p1 : Int32} (hR : RR Bd K W C B set holds count free dirty kc kl qc ql told rt rc rl rs re rb te ca dr lo la lp row) (hB : Bd + 7000 < 1000000000) : (mX7_simulate set holds count free dirty kc kl qc ql told rt rc rl rs re rb te ca dr lo la lp gset gholds gcount gfree gdirty gkc gkl gqc gql gtold grt grc grl grs gre grb gte gca gdr glo gla glp p0 p1 = Sum.inl (fxE 0) ∧ mX8_simulate rf ss sp ig lf ac row trow p0 p1 = (0, 1, trow)) ∨
    ∃ (r : Int32) (z : fcSV) (trow' : Nat → Int32), mX7_simulate set holds count free dirty kc kl qc ql told rt rc rl rs re rb te ca dr lo la lp gset gholds gcount gfree gdirty gkc gkl gqc gql gtold grt grc grl grs gre grb gte gca gdr glo gla glp p0 p1 = Sum.inr (r, z) ∧ mX8_simulate rf ss sp ig lf ac row trow p0 p1 = (r, 0, trow') := by
  have l1 : (1 : Int32).toInt = 1 := by decide
  have l99 : (99 : Int32).toInt = 99 := by decide
  unfold mX7_simulate mX8_simulate
  by_cases c1 : p1.toInt < 1
  · left
    rw [if_pos (show p1 < 1 by rw [fc_lt]; omega), px_in0 (show (1 : Int64).toInt = 1 by decide) (show (99 : Int64).toInt = 99 by decide) (by omega)]
    exact ⟨rfl, rfl⟩
  · rw [if_neg (show ¬ p1 < 1 by rw [fc_lt]; omega)]
    by_cases c2 : p1.toInt ≤ 99
    · right
      rw [if_pos (show p1 ≤ 99 by rw [fc_le]; omega), px_in1 (show (1 : Int64).toInt = 1 by decide) (show (99 : Int64).toInt = 99 by decide) (by omega)]
      dsimp only
      rw [if_neg px_10]
      obtain ⟨set', holds', kc', qc', told', e1, e2⟩ := R_copyFrom (gset := gset) (gholds := gholds) (gcount := gcount) (gfree := gfree) (gdirty := gdirty) (gkc := gkc) (gkl := gkl) (gqc := gqc) (gql := gql) (gtold := gtold) (grt := grt) (grc := grc) (grl := grl) (grs := grs) (gre := gre) (grb := grb) (gte := gte) (gca := gca) (gdr := gdr) (glo := glo) (gla := gla) (glp := glp) hR
      rw [e1]
      dsimp only
      have hr : RR Bd K W C B set' holds' count free dirty kc' kl qc' ql told' rt rc rl rs re rb te ca dr lo la lp (mX8_tryIt 0 ss sp ig lf ac row trow) := R_rowcopy e2
      obtain ⟨e, -, z⟩ := fx_nn (x := p1) (by omega)
      have h9 := P_sim_L (set := set) (holds := holds) (count := count) (free := free) (dirty := dirty) (kc := kc) (kl := kl) (qc := qc) (ql := ql) (told := told) (rt := rt) (rc := rc) (rl := rl) (rs := rs) (re := re) (rb := rb) (te := te) (ca := ca) (dr := dr) (lo := lo) (la := la) (lp := lp) (ss := ss) (sp := sp) (ig := ig) (lf := lf) (ac := ac) (p0 := p0) (row0 := row) e (by omega) hR.1.1.1.2.2.2.1 hR.1.1.1.2.2.2.2.1 100 0 p0 123456 set' holds' count free dirty kc' kl qc' ql told' rt rc rl rs re rb te ca dr lo la lp Bd K W C B _ hr (by omega) (by omega) (by omega) (by decide)
      rw [nI_0] at h9
      exact h9
    · left
      rw [if_neg (show ¬ p1 ≤ 99 by rw [fc_le]; omega), px_in0 (show (1 : Int64).toInt = 1 by decide) (show (99 : Int64).toInt = 99 by decide) (by omega)]
      exact ⟨rfl, rfl⟩
theorem r_keeps8_L {v : Int32} (h16 : row 16 = nI K) (hK : K ≤ 48) : ∀ (k i : Nat), i ≤ K → K < i + k → mX8_keeps_L4 rf ss sp ig lf ac row v k 1 (nI i) = 1 ∧ ((∃ j, i ≤ j ∧ j < K ∧ row (67 + 5 * j) = v) → mX8_keeps_L4 rf ss sp ig lf ac row v k 0 (nI i) = 1) ∧ ((∀ j, i ≤ j → j < K → row (67 + 5 * j) ≠ v) → mX8_keeps_L4 rf ss sp ig lf ac row v k 0 (nI i) = 0) := by
  intro k
  induction k with
  | zero => intro i h1 h2; omega
  | succ k ih =>
    intro i h1 h2
    rw [mX8_keeps_L4_s, mX8_keeps_L4_s, mX8_keeps_S4, mX8_keeps_S4, pl_lit16, h16]
    by_cases c : i = K
    · subst c
      rw [if_pos (nI_le (Nat.le_refl _) (by omega)), if_pos (nI_le (Nat.le_refl _) (by omega))]
      exact ⟨rfl, fun ⟨j, q1, q2, _⟩ => by omega, fun _ => rfl⟩
    · rw [if_neg (nI_ge (by omega) (by omega)), if_neg (nI_ge (by omega) (by omega)), if_neg px_10, if_pos rfl, nI_1]
      obtain ⟨a1, a2, a3⟩ := ih (i + 1) (by omega) (by omega)
      dsimp only
      rw [show mX8_keptAt (nI i) 0 = nI (67 + 5 * i) from pkA i 0, nI_clamp (by omega)]
      refine ⟨a1, fun ⟨j, q1, q2, q3⟩ => ?_, fun q => ?_⟩
      · by_cases z : row (67 + 5 * i) = v
        · rw [if_pos z]; exact a1
        · rw [if_neg z]
          have : j ≠ i := fun e => z (e ▸ q3)
          exact a2 ⟨j, by omega, q2, q3⟩
      · rw [if_neg (q i (Nat.le_refl _) (by omega))]
        exact a3 (fun j q1 q2 => q j (by omega) q2)
theorem r_keeps5_L {v : Int32} (hkl : kl = nI K) (hK : K ≤ 48) (hkc : ∀ i, i < K → kc (7 * i) = row (67 + 5 * i)) : ∀ (k i : Nat), i ≤ K → K < i + k → ((∃ j, i ≤ j ∧ j < K ∧ row (67 + 5 * j) = v) → mX5_keeps_L2 set holds count free dirty kc kl qc ql told rt rc rl rs re rb te ca dr lo la lp v k (nI i) = 1) ∧ ((∀ j, i ≤ j → j < K → row (67 + 5 * j) ≠ v) → mX5_keeps_L2 set holds count free dirty kc kl qc ql told rt rc rl rs re rb te ca dr lo la lp v k (nI i) = 0) := by
  subst hkl
  intro k
  induction k with
  | zero => intro i h1 h2; omega
  | succ k ih =>
    intro i h1 h2
    rw [mX5_keeps_L2_s, mX5_keeps_S2]
    by_cases c : i = K
    · subst c
      refine ⟨fun ⟨j, q1, q2, _⟩ => by omega, fun _ => ?_⟩
      by_cases d : (48 : Int32) ≤ nI i
      · rw [if_pos d]
      · rw [if_neg d, if_pos (nI_le (Nat.le_refl _) (by omega))]
    · rw [if_neg (show ¬ (48 : Int32) ≤ nI i from nI_ge (b := 48) (by omega) (by decide)), if_neg (nI_ge (by omega) (by omega)), nI_1]
      obtain ⟨a2, a3⟩ := ih (i + 1) (by omega) (by omega)
      dsimp only
      rw [show mX1_get 336 kc (nI K) (nI i) 0 = kc (7 * i) from pg_get (w := 0) (by decide) (by omega) (by omega) (by omega), hkc i (by omega)]
      refine ⟨fun ⟨j, q1, q2, q3⟩ => ?_, fun q => ?_⟩
      · by_cases z : row (67 + 5 * i) = v
        · rw [if_pos z]
        · rw [if_neg z]
          have : j ≠ i := fun e => z (e ▸ q3)
          exact a2 ⟨j, by omega, q2, q3⟩
      · rw [if_neg (q i (Nat.le_refl _) (by omega))]
        exact a3 (fun j q1 q2 => q j (by omega) q2)
theorem P_keeps {v : Int32} (hR : RR Bd K W C B set holds count free dirty kc kl qc ql told rt rc rl rs re rb te ca dr lo la lp row) : mX5_keeps set holds count free dirty kc kl qc ql told rt rc rl rs re rb te ca dr lo la lp v = mX8_keeps rf ss sp ig lf ac row v := by
  have hk := RR_cnt hR
  have hkc : ∀ i, i < K → kc (7 * i) = row (67 + 5 * i) := fun i hi => (hR.2.1.1 i hi).1 0 (by omega)
  have a8 := r_keeps8_L (rf := rf) (ss := ss) (sp := sp) (ig := ig) (lf := lf) (ac := ac) (v := v) hk.2.1 hk.2.2.1 49 0 (by omega) (by omega)
  have a5 := r_keeps5_L (set := set) (holds := holds) (count := count) (free := free) (dirty := dirty) (qc := qc) (ql := ql) (told := told) (rt := rt) (rc := rc) (rl := rl) (rs := rs) (re := re) (rb := rb) (te := te) (ca := ca) (dr := dr) (lo := lo) (la := la) (lp := lp) (v := v) hk.1 hk.2.2.1 hkc 49 0 (by omega) (by omega)
  unfold mX5_keeps mX8_keeps
  by_cases c : ∃ j, 0 ≤ j ∧ j < K ∧ row (67 + 5 * j) = v
  · exact (a5.1 c).trans (a8.2.1 c).symm
  · have d : ∀ j, 0 ≤ j → j < K → row (67 + 5 * j) ≠ v := fun j h1 h2 e => c ⟨j, h1, h2, e⟩
    exact (a5.2 d).trans (a8.2.2 d).symm
theorem px_holds0 {w v : Int32} (h5 : ¬ w = 5) (h6 : ¬ w = 6) (h7 : ¬ w = 7) (h8 : ¬ w = 8) (h9 : ¬ w = 9) : mX7_holds set holds count free dirty kc kl qc ql told rt rc rl rs re rb te ca dr lo la lp w v = 0 := by
  unfold mX7_holds
  rw [if_neg h9]
  by_cases c : v ≤ 99
  · rw [if_pos c, if_neg h5, if_neg h6, if_neg h7, if_neg h8, if_neg h9]
  · rw [if_neg c]
end
