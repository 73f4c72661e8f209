/-! PURE: what would be, on both sides -/
theorem fr_sF_q {set : Nat → Int32} {holds : Nat → Int32} {count : Int32} {free : Int32} {dirty : Int32} {kc : Nat → Int32} {kl : Int32} {qc : Nat → Int32} {ql : Int32} {told : Nat → Int32} {rt : Int32} {rc : Int32} {rl : Int32} {rs : Int32} {re : Int32} {rb : Int32} {te : Int32} {ca : Int32} {dr : Int32} {lo : Int32} {la : Int32} {lp : Int32} {la' free' : Int32} {holds' : Nat → Int32} {kl' : Int32} {kc' : Nat → Int32} {ql' : Int32} {qc' : Nat → Int32} {rs' : Int32}
    (h : mX5_storeFirst set holds count free dirty kc kl qc ql told rt rc rl rs re rb te ca dr lo la lp = (la', free', holds', kl', kc', ql', qc', rs')) : mX1_remove 28 qc ql 0 = (ql', qc') := by
  unfold mX5_storeFirst at h
  simp only [mX1_add] at h
  obtain ⟨⟨r8, f8, h8⟩, e8⟩ : ∃ z, z = mX0_take holds count free dirty (mX1_get 28 qc ql 0 0) (mX1_get 28 qc ql 0 2) := ⟨_, rfl⟩
  obtain ⟨⟨l9, c9⟩, e9⟩ : ∃ z, z = mX1_remove 28 qc ql 0 := ⟨_, rfl⟩
  simp only [← e8, ← e9] at h
  split at h <;> (simp only [Prod.mk.injEq] at h; obtain ⟨-, -, -, -, -, h5, h6, -⟩ := h; subst h5; subst h6; exact e9.symm)
theorem fr_sW_q {set : Nat → Int32} {count dirty : Int32} {told : Nat → Int32} {rt rc rl re rb te ca dr lo lp : Int32} : ∀ (k x W : Nat) (free : Int32) (holds : Nat → Int32) (kl : Int32) (kc qc : Nat → Int32) (rs la : Int32) {r la' free' : Int32} {holds' : Nat → Int32} {kl' : Int32} {kc' : Nat → Int32} {ql' : Int32} {qc' : Nat → Int32} {rs' : Int32},
    mX5_storeWaiting_L2 set count dirty told rt rc rl re rb te ca dr lo lp k (nI x) free holds kl kc (nI W) qc rs la = (r, la', free', holds', kl', kc', ql', qc', rs') → W ≤ 4 → x + W ≤ 4 → W < k → ∃ n W', r = nI (x + n) ∧ ql' = nI W' ∧ W' + n = W ∧ ∀ i, i < W' → qc' (7 * i) = qc (7 * (i + n)) := by
  intro k
  induction k with
  | zero => intro x W free holds kl kc qc rs la r la' free' holds' kl' kc' ql' qc' rs' h hW hx hk; omega
  | succ k ih =>
    intro x W free holds kl kc qc rs la r la' free' holds' kl' kc' ql' qc' rs' h hW hx hk
    have stay : ∀ {a : Int32}, (nI x, la, free, holds, kl, kc, nI W, qc, rs) = (r, la', free', holds', kl', kc', ql', qc', rs') → ∃ n W', r = nI (x + n) ∧ ql' = nI W' ∧ W' + n = W ∧ ∀ i, i < W' → qc' (7 * i) = qc (7 * (i + n)) := by
      intro a h
      simp only [Prod.mk.injEq] at h
      obtain ⟨e0, -, -, -, -, -, e1, e2, -⟩ := h
      subst e0 e1 e2
      exact ⟨0, W, rfl, rfl, rfl, fun i _ => rfl⟩
    rw [mX5_storeWaiting_L2_s, mX5_storeWaiting_S2] at h
    dsimp only at h
    by_cases c1 : (4 : Int32) ≤ nI x
    · rw [if_pos c1] at h; exact stay (a := 0) h
    · rw [if_neg c1] at h
      by_cases c2 : nI W ≤ 0
      · rw [if_pos c2] at h; exact stay (a := 0) h
      · rw [if_neg c2] at h
        by_cases c3 : free < mX1_get 28 qc (nI W) 0 2
        · rw [if_pos c3] at h; exact stay (a := 0) h
        · rw [if_neg c3] at h
          have hW0 : 0 < W := by
            rcases Nat.eq_zero_or_pos W with z | z
            · subst z; exact absurd (show nI 0 ≤ 0 by decide) c2
            · exact z
          obtain ⟨⟨la5, free5, holds5, kl5, kc5, ql5, qc5, rs5⟩, e5⟩ : ∃ z, z = mX5_storeFirst set holds count free dirty kc kl qc (nI W) told rt rc rl rs re rb te ca dr lo la lp := ⟨_, rfl⟩
          rw [← e5] at h
          dsimp only at h
          have e6 := fr_sF_q e5.symm
          have e7 : mX1_remove 28 qc (nI W) (nI 0) = (nI (W - 1), va_cpy qc qc (7 * (0 + 1)) (7 * 0) (7 * W - 7 * (0 + 1))) := pg_remove (by decide) (by omega) hW0
          rw [show (0 : Int32) = nI 0 from rfl, e7] at e6
          obtain ⟨q1, q2⟩ := Prod.mk.inj e6
          subst q1 q2
          rw [nI_1] at h
          obtain ⟨n, W', g1, g2, g3, g4⟩ := ih (x + 1) (W - 1) _ _ _ _ _ _ _ h (by omega) (by omega) (by omega)
          refine ⟨n + 1, W', by rw [g1]; congr 1; omega, g2, by omega, fun i hi => ?_⟩
          rw [g4 i hi, pk_cpy_in (by omega) (by omega)]
          exact congrArg qc (by omega)
/-- a pass of one tick: what is stored leaves the row's front -/
theorem fr_pass1 {set : Nat → Int32} {holds : Nat → Int32} {count : Int32} {free : Int32} {dirty : Int32} {kc : Nat → Int32} {kl : Int32} {qc : Nat → Int32} {ql : Int32} {told : Nat → Int32} {rt : Int32} {rc : Int32} {rl : Int32} {rs : Int32} {re : Int32} {rb : Int32} {te : Int32} {ca : Int32} {dr : Int32} {lo : Int32} {la : Int32} {lp : Int32} {r : Int32} {holds' : Nat → Int32} {free' : Int32} {dirty' : Int32} {kc' : Nat → Int32} {kl' : Int32} {qc' : Nat → Int32} {ql' : Int32} {told' : Nat → Int32} {rt' : Int32} {rc' : Int32} {rl' : Int32} {rs' : Int32} {re' : Int32} {rb' : Int32} {te' : Int32} {dr' : Int32} {la' : Int32} {W : Nat} (h : mX5_pass set holds count free dirty kc kl qc ql told rt rc rl rs re rb te ca dr lo la lp 1 = (r, te', dr', la', free', dirty', holds', kl', kc', ql', qc', rt', rc', rl', rs', re', rb', told')) (hq : ql = nI W) (hW : W ≤ 4) : ∃ n W', r = nI n ∧ ql' = nI W' ∧ W' + n = W ∧ ∀ i, i < W' → qc' (7 * i) = qc (7 * (i + n)) := by
  subst hq
  unfold mX5_pass at h
  rw [mX5_pass_L4_s, mX5_pass_S4, if_neg (by decide)] at h
  obtain ⟨⟨free2, dirty2, holds2⟩, e2⟩ : ∃ z, z = mX0_clean holds count free dirty (set (0 : Int32).toNatClampNeg) := ⟨_, rfl⟩
  rw [← e2] at h
  dsimp only at h
  obtain ⟨⟨r3, la3, free3, holds3, kl3, kc3, ql3, qc3, rs3⟩, e3⟩ : ∃ z, z = mX5_storeWaiting set holds2 count free2 dirty2 kc kl qc (nI W) told rt rc rl rs re rb te ca dr lo la lp := ⟨_, rfl⟩
  rw [← e3] at h
  dsimp only at h
  obtain ⟨⟨dr4, dirty4, holds4, kl4, kc4⟩, e4⟩ : ∃ z, z = mX5_makeRoomForFirst set holds3 count free3 dirty2 kc3 kl3 qc3 ql3 told rt rc rl rs3 re rb te ca dr lo la3 lp := ⟨_, rfl⟩
  rw [← e4] at h
  dsimp only at h
  obtain ⟨⟨te5, rt5, rc5, rl5, rs5, re5, rb5, told5⟩, e5⟩ : ∃ z, z = mX5_endTick set holds4 count free3 dirty4 kc4 kl4 qc3 ql3 told rt rc rl rs3 re rb te ca dr4 lo la3 lp := ⟨_, rfl⟩
  rw [← e5] at h
  dsimp only at h
  rw [mX5_pass_L4_s, mX5_pass_S4, if_pos (by decide)] at h
  simp only [Prod.mk.injEq] at h
  obtain ⟨z0, -, -, -, -, -, -, -, -, z1, z2, -⟩ := h
  subst z1 z2
  obtain ⟨n, W', g1, g2, g3, g4⟩ := fr_sW_q 5 0 W _ _ _ _ _ _ _ e3.symm hW (by omega) (by omega)
  refine ⟨n, W', ?_, g2, g3, g4⟩
  rw [← z0, g1, Int32.zero_add, Nat.zero_add]
section
variable {Bd K W C B : Nat} {set holds : Nat → Int32} {count free dirty : Int32} {kc : Nat → Int32} {kl : Int32} {qc : Nat → Int32} {ql : Int32} {told : Nat → Int32} {rt rc rl rs re rb te ca dr lo la lp : Int32} {row : Nat → Int32}
variable {rf ss sp ig lf ac : Int32}
variable {gset : Nat → Int32} {gholds : Nat → Int32} {gcount : Int32} {gfree : Int32} {gdirty : Int32} {gkc : Nat → Int32} {gkl : Int32} {gqc : Nat → Int32} {gql : Int32} {gtold : Nat → Int32} {grt : Int32} {grc : Int32} {grl : Int32} {grs : Int32} {gre : Int32} {grb : Int32} {gte : Int32} {gca : Int32} {gdr : Int32} {glo : Int32} {gla : Int32} {glp : Int32} {trow : Nat → Int32}
theorem ticksIn1 {r : Nat → Int32} : mX8_ticksIn r 1 = ((mX8_tick r).1, (mX8_tick r).2) := by
  unfold mX8_ticksIn
  rw [mX8_ticksIn_L4_s, mX8_ticksIn_S4, if_neg (by decide)]
  obtain ⟨⟨a, b⟩, e⟩ : ∃ z, z = mX8_tick r := ⟨_, rfl⟩
  rw [← e]
  dsimp only
  rw [mX8_ticksIn_L4_s, mX8_ticksIn_S4, if_pos (by decide), Int32.zero_add]
theorem ticksInS {n : Int32} {k : Nat} {x y : Int32} {r : Nat → Int32} (h : ¬ n ≤ y) : mX8_ticksIn_L4 n (k + 1) x y r = mX8_ticksIn_L4 n k (x + (mX8_tick r).1) (y + 1) (mX8_tick r).2 := by
  rw [mX8_ticksIn_L4_s, mX8_ticksIn_S4, if_neg h]
theorem ticksIn5 {r : Nat → Int32} : (mX8_ticksIn r 5).2 = (mX8_tick (mX8_tick (mX8_tick (mX8_tick (mX8_tick r).2).2).2).2).2 := by
  unfold mX8_ticksIn
  rw [ticksInS (by decide), ticksInS (by decide), ticksInS (by decide), ticksInS (by decide), ticksInS (by decide), mX8_ticksIn_L4_s, mX8_ticksIn_S4, if_pos (by decide)]
/-- a tick on both sides, and who still waits -/
theorem P_tick1 (hR : RR Bd K W C B set holds count free dirty kc kl qc ql told rt rc rl rs re rb te ca dr lo la lp row) (hB : Bd + 51 < 1000000000) : ∃ (n K' W' B' : Nat) (te' dr' la' free' dirty' : Int32) (holds' : Nat → Int32) (kl' : Int32) (kc' : Nat → Int32) (ql' : Int32) (qc' : Nat → Int32) (rt' rc' rl' rs' re' rb' : Int32) (told' row' : Nat → Int32),
    mX5_pass set holds count free dirty kc kl qc ql told rt rc rl rs re rb te ca dr lo la lp 1 = (nI n, te', dr', la', free', dirty', holds', kl', kc', ql', qc', rt', rc', rl', rs', re', rb', told') ∧ mX8_tick row = (nI n, row') ∧ W' + n = W ∧ (∀ i, i < W' → row' (307 + 4 * i) = row (307 + 4 * (i + n))) ∧ RR (Bd + 51) K' W' C B' set holds' count free' dirty' kc' kl' qc' ql' told' rt' rc' rl' rs' re' rb' te' ca dr' lo la' lp row' := by
  obtain ⟨K', W', B', r, free', dirty', holds', kl', kc', ql', qc', rt', rc', rl', rs', re', rb', told', te', dr', la', row2, g1, g2, g3⟩ := R_pass hR (p0 := 1) (by decide) hB
  have hk := RR_cnt hR
  have hk2 := RR_cnt g3
  obtain ⟨n, W2, q1, q2, q3, q4⟩ := fr_pass1 g1 hk.2.2.2.1 hk.2.2.2.2.2
  have eW : W2 = W' := (nI_eq (by omega) (by omega)).mp (q2.symm.trans hk2.2.2.2.1)
  subst eW
  rw [ticksIn1] at g2
  subst q1
  refine ⟨n, K', W2, B', te', dr', la', free', dirty', holds', kl', kc', ql', qc', rt', rc', rl', rs', re', rb', told', row2, g1, g2, q3, fun i hi => ?_, g3⟩
  have a1 := (g3.2.1.2.1 i hi).1 0 (by omega)
  have a2 := (hR.2.1.2.1 (i + n) (by omega)).1 0 (by omega)
  rw [Nat.add_zero, Nat.add_zero] at a1 a2
  rw [← a1, ← a2]
  exact q4 i hi
theorem r_ws_L {W : Nat} {trow : Nat → Int32} {v : Int32} (h17 : trow 17 = nI W) (hW : W ≤ 4) : ∀ (k i : Nat), i ≤ W → W < i + k → mX8_waitsStill_L4 rf ss sp ig lf ac trow v k 1 (nI i) = 1 ∧ ((∃ j, i ≤ j ∧ j < W ∧ trow (307 + 4 * j) = v) → mX8_waitsStill_L4 rf ss sp ig lf ac trow v k 0 (nI i) = 1) ∧ ((∀ j, i ≤ j → j < W → trow (307 + 4 * j) ≠ v) → mX8_waitsStill_L4 rf ss sp ig lf ac trow v k 0 (nI i) = 0) := by
  intro k
  induction k with
  | zero => intro i h1 h2; omega
  | succ k ih =>
    intro i h1 h2
    rw [mX8_waitsStill_L4_s, mX8_waitsStill_L4_s, mX8_waitsStill_S4, mX8_waitsStill_S4, pl_lit17, h17]
    by_cases c : i = W
    · subst c
      rw [if_pos (nI_le (Nat.le_refl _) (by omega)), if_pos (nI_le (Nat.le_refl _) (by omega))]
      exact ⟨rfl, fun ⟨j, q1, q2, _⟩ => by omega, fun _ => rfl⟩
    · rw [if_neg (nI_ge (by omega) (by omega)), if_neg (nI_ge (by omega) (by omega)), if_neg px_10, if_pos rfl, nI_1]
      obtain ⟨a1, a2, a3⟩ := ih (i + 1) (by omega) (by omega)
      dsimp only
      rw [show mX8_waitAt (nI i) 0 = nI (307 + 4 * i) from pwA i 0, nI_clamp (by omega)]
      refine ⟨a1, fun ⟨j, q1, q2, q3⟩ => ?_, fun q => ?_⟩
      · by_cases z : trow (307 + 4 * i) = v
        · rw [if_pos z]; exact a1
        · rw [if_neg z]
          have : j ≠ i := fun e => z (e ▸ q3)
          exact a2 ⟨j, by omega, q2, q3⟩
      · rw [if_neg (q i (Nat.le_refl _) (by omega))]
        exact a3 (fun j q1 q2 => q j (by omega) q2)
theorem P_storedIn_L {p0 : Int32} {W0 pi : Nat} {row0 : Nat → Int32} (hp0 : p0 = nI pi) (hpi : pi < W0) (hW0 : W0 ≤ 4) (hinj : ∀ i j, i < j → j < W0 → row0 (307 + 4 * i) ≠ row0 (307 + 4 * j)) : ∀ (k k2 t S : Nat) (gset : Nat → Int32) (gholds : Nat → Int32) (gcount : Int32) (gfree : Int32) (gdirty : Int32) (gkc : Nat → Int32) (gkl : Int32) (gqc : Nat → Int32) (gql : Int32) (gtold : Nat → Int32) (grt : Int32) (grc : Int32) (grl : Int32) (grs : Int32) (gre : Int32) (grb : Int32) (gte : Int32) (gca : Int32) (gdr : Int32) (glo : Int32) (gla : Int32) (glp : Int32) (Bd K W C B : Nat) (trow : Nat → Int32),
    RR Bd K W C B gset gholds gcount gfree gdirty gkc gkl gqc gql gtold grt grc grl grs gre grb gte gca gdr glo gla glp trow → Bd + 51 * k < 1000000000 → W + S = W0 → 1 ≤ t → t ≤ 100 → 100 < t + k → 100 < t + k2 → S ≤ pi → (∀ i, i < W → trow (307 + 4 * i) = row0 (307 + 4 * (i + S))) →
    ∃ (r : Int32) (z : fcSV) (trow' : Nat → Int32), mX7_storedIn_L39 set holds count free dirty kc kl qc ql told rt rc rl rs re rb te ca dr lo la lp p0 gca glo glp gset gcount k (nI S) (nI t) gfree gdirty gholds gkl gkc gql gqc grt grc grl grs gre grb gtold gte gdr gla = Sum.inr (r, z) ∧ mX8_storedIn_L28 ss sp ig lf ac row0 p0 k2 (nI t) trow = (r, 0, trow') := by
  intro k
  induction k with
  | zero => intro k2 t S gset gholds gcount gfree gdirty gkc gkl gqc gql gtold grt grc grl grs gre grb gte gca gdr glo gla glp Bd K W C B trow hR hB hW h1 h2 h3; omega
  | succ k ih =>
    intro k2 t S gset gholds gcount gfree gdirty gkc gkl gqc gql gtold grt grc grl grs gre grb gte gca gdr glo gla glp Bd K W C B trow hR hB hW h1 h2 h3 h4 hS hsh
    obtain ⟨k2, rfl⟩ : ∃ c, k2 = c + 1 := ⟨k2 - 1, by omega⟩
    rw [mX7_storedIn_L39_s, mX7_storedIn_S39, mX8_storedIn_L28_s, mX8_storedIn_S28]
    have zt := fc_nI (n := t) (by omega)
    have l99 : (99 : Int32).toInt = 99 := by decide
    have l100 : (100 : Int32).toInt = 100 := by decide
    by_cases c : t = 100
    · rw [if_pos (show 99 < nI t by rw [fc_lt]; omega), if_pos (show 100 ≤ nI t by rw [fc_le]; omega)]
      exact ⟨_, _, _, rfl, rfl⟩
    · rw [if_neg (show ¬ 99 < nI t by rw [fc_lt]; omega), if_neg (show ¬ 100 ≤ nI t by rw [fc_le]; omega)]
      obtain ⟨n, K', W', B', te', dr', la', free', dirty', holds', kl', kc', ql', qc', rt', rc', rl', rs', re', rb', told', row', e1, e2, e3, e4, e5⟩ := P_tick1 hR (by omega)
      rw [e1, e2]
      dsimp only
      have hk := RR_cnt e5
      have hv : row0 (mX8_waitAt p0 0).toNatClampNeg = row0 (307 + 4 * pi) := by
        rw [hp0, show mX8_waitAt (nI pi) 0 = nI (307 + 4 * pi + 0) from pwA pi 0, nI_clamp (by omega), Nat.add_zero]
      rw [hv]
      have hw := r_ws_L (rf := 0) (ss := ss) (sp := sp) (ig := ig) (lf := lf) (ac := ac) (v := row0 (307 + 4 * pi)) hk.2.2.2.2.1 hk.2.2.2.2.2 5 0 (by omega) (by omega)
      have hnext : ∀ i, i < W' → row' (307 + 4 * i) = row0 (307 + 4 * (i + (S + n))) := fun i hi => by
        rw [e4 i hi, hsh (i + n) (by omega), show i + n + S = i + (S + n) by omega]
      rw [nI_add, hp0]
      by_cases d : S + n ≤ pi
      · have w1 : mX8_waitsStill 0 ss sp ig lf ac row' (row0 (307 + 4 * pi)) = 1 := hw.2.1 ⟨pi - (S + n), by omega, by omega, by rw [hnext _ (by omega), show pi - (S + n) + (S + n) = pi by omega]⟩
        rw [if_pos (nI_le d (by omega)), w1, if_neg px_10, nI_1]
        have := ih k2 (t + 1) (S + n) gset holds' gcount free' dirty' kc' kl' qc' ql' told' rt' rc' rl' rs' re' rb' te' gca dr' glo la' glp _ _ _ _ _ _ e5 (by omega) (by omega) (by omega) (by omega) (by omega) (by omega) d hnext
        rw [hp0] at this
        exact this
      · have w1 : mX8_waitsStill 0 ss sp ig lf ac row' (row0 (307 + 4 * pi)) = 0 := hw.2.2 (fun j _ hj => by
          rw [hnext j hj]
          exact fun e => hinj pi (j + (S + n)) (by omega) (by omega) e.symm)
        rw [if_neg (nI_ge (by omega) (by omega)), w1, if_pos rfl]
        exact ⟨_, _, _, rfl, rfl⟩
theorem px_try {j : Nat} (h : j < 357) : mX8_tryIt rf ss sp ig lf ac row trow j = row j := by
  have e : mX8_tryIt rf ss sp ig lf ac row trow = va_cpy row trow 0 0 357 := pcp (a := 0) (b := 0) (n := 357) (by omega) (by omega) (by omega)
  rw [e]; exact pcpy_in h
theorem P_storedIn {p0 : Int32} (hR : RR Bd K W C B set holds count free dirty kc kl qc ql told rt rc rl rs re rb te ca dr lo la lp row) (hB : Bd + 6000 < 1000000000) : (mX7_storedIn set holds count free dirty kc kl qc ql told rt rc rl rs re rb te ca dr lo la lp gset gholds gcount gfree gdirty gkc gkl gqc gql gtold grt grc grl grs gre grb gte gca gdr glo gla glp p0 = Sum.inl (fxE 2) ∧ mX8_storedIn rf ss sp ig lf ac row trow p0 = (0, 1, trow)) ∨
    ∃ (r : Int32) (z : fcSV) (trow' : Nat → Int32), mX7_storedIn set holds count free dirty kc kl qc ql told rt rc rl rs re rb te ca dr lo la lp gset gholds gcount gfree gdirty gkc gkl gqc gql gtold grt grc grl grs gre grb gte gca gdr glo gla glp p0 = Sum.inr (r, z) ∧ mX8_storedIn rf ss sp ig lf ac row trow p0 = (r, 0, trow') := by
  have hk := RR_cnt hR
  unfold mX7_storedIn mX8_storedIn
  rw [px_isWaiting hk.2.2.2.2.1 hk.2.2.2.2.2, show mX1_has ql p0 = if 0 ≤ p0.toInt ∧ p0.toInt < W then 1 else 0 by rw [hk.2.2.2.1]; exact px_has (by omega)]
  by_cases c : 0 ≤ p0.toInt ∧ p0.toInt < W
  · right
    rw [if_pos c]
    dsimp only
    rw [if_neg px_10, if_neg px_10]
    obtain ⟨e, -, z⟩ := fx_nn c.1
    obtain ⟨set', holds', kc', qc', told', e1, e2⟩ := R_copyFrom (gset := gset) (gholds := gholds) (gcount := gcount) (gfree := gfree) (gdirty := gdirty) (gkc := gkc) (gkl := gkl) (gqc := gqc) (gql := gql) (gtold := gtold) (grt := grt) (grc := grc) (grl := grl) (grs := grs) (gre := gre) (grb := grb) (gte := gte) (gca := gca) (gdr := gdr) (glo := glo) (gla := gla) (glp := glp) hR
    rw [e1]
    dsimp only
    have hr : RR Bd K W C B set' holds' count free dirty kc' kl qc' ql told' rt rc rl rs re rb te ca dr lo la lp (mX8_tryIt 0 ss sp ig lf ac row trow) := R_rowcopy e2
    have hinj : ∀ i j, i < j → j < W → row (307 + 4 * i) ≠ row (307 + 4 * j) := fun i j hij hj q => by
      have h1 := hR.2.1.2.2.1 (K + i) (K + j) (by omega) (by omega)
      unfold pnum at h1
      rw [if_neg (by omega), if_neg (by omega), show K + i - K = i by omega, show K + j - K = j by omega, q] at h1
      omega
    have htr : ∀ i, i < W → mX8_tryIt 0 ss sp ig lf ac row trow (307 + 4 * i) = row (307 + 4 * (i + 0)) := fun i hi => by
      rw [Nat.add_zero]; exact px_try (by omega)
    have h9 := P_storedIn_L (set := set) (holds := holds) (count := count) (free := free) (dirty := dirty) (kc := kc) (kl := kl) (qc := qc) (ql := ql) (told := told) (rt := rt) (rc := rc) (rl := rl) (rs := rs) (re := re) (rb := rb) (te := te) (ca := ca) (dr := dr) (lo := lo) (la := la) (lp := lp) (ss := ss) (sp := sp) (ig := ig) (lf := lf) (ac := ac) (row0 := row) e (by omega) hk.2.2.2.2.2 hinj 100 101 1 0 set' holds' count free dirty kc' kl qc' ql told' rt rc rl rs re rb te ca dr lo la lp Bd K W C B _ hr (by omega) rfl (by omega) (by omega) (by omega) (by omega) (by omega) htr
    rw [nI_0, show nI 1 = 1 from rfl] at h9
    exact h9
  · left
    rw [if_neg c]
    exact ⟨rfl, rfl⟩
theorem P_stores {pace : Int32} {p : Nat} (hR : RR Bd K W C B set holds count free dirty kc kl qc ql told rt rc rl rs re rb te ca dr lo la lp row) (hB : Bd + 51 < 1000000000) (hp : pace = nI p) (hp9 : p < 1000) :
    ∃ (r : Int32) (z : fcSV), mX7_storesAllWith set holds count free dirty kc kl qc ql told rt rc rl rs re rb te ca dr lo la lp gset gholds gcount gfree gdirty gkc gkl gqc gql gtold grt grc grl grs gre grb gte gca gdr glo gla glp pace = (r, z) ∧ (r = 0 ∨ r = 1) ∧ (r = 0 ↔ ¬ (mX8_ticksIn (upd (mX8_tryIt 0 ss sp ig lf ac row trow) 0 pace) 5).2 17 = 0) ∧ (row 17 = 0 → r = 1) := by
  have hk := RR_cnt hR
  obtain ⟨set', holds', kc', qc', told', e1, e2⟩ := R_copyFrom (gset := gset) (gholds := gholds) (gcount := gcount) (gfree := gfree) (gdirty := gdirty) (gkc := gkc) (gkl := gkl) (gqc := gqc) (gql := gql) (gtold := gtold) (grt := grt) (grc := grc) (grl := grl) (grs := grs) (gre := gre) (grb := grb) (gte := gte) (gca := gca) (gdr := gdr) (glo := glo) (gla := gla) (glp := glp) hR
  have hr : RR Bd K W C B set' holds' count free dirty kc' kl qc' ql told' rt rc rl rs re rb te ca dr lo la lp (mX8_tryIt 0 ss sp ig lf ac row trow) := R_rowcopy e2
  obtain ⟨g1, g2⟩ := R_set (w := 0) (v := pace) hr (by omega) (fun _ => ⟨p, hp9, hp⟩)
  obtain ⟨K', W', B', r, free2, dirty2, holds2, kl2, kc2, ql2, qc2, rt2, rc2, rl2, rs2, re2, rb2, told2, te2, dr2, la2, row2, f1, f2, f3⟩ := R_pass g2 (p0 := 5) (by decide) hB
  have hk2 := RR_cnt f3
  have hle := (fr_pass f1 (by rw [hk.2.2.2.1, fc_nI (by omega)]; omega) (by rw [hk.1, fc_nI (by omega)]; omega) (by rw [hk.1, fc_nI (by omega)]; omega)).2.1
  unfold mX7_storesAllWith
  rw [e1]
  dsimp only
  rw [show nI 0 = (0 : Int32) from rfl] at g1
  rw [g1]
  dsimp only
  rw [f1]
  dsimp only
  rw [f2]
  dsimp only
  rw [hk2.2.2.2.2.1]
  have hW : W ≤ 4 := hk.2.2.2.2.2
  rw [hk2.2.2.2.1, hk.2.2.2.1, fc_nI (by omega), fc_nI (by omega)] at hle
  rw [hk2.2.2.2.1, hk.2.2.2.2.1]
  by_cases c : W' = 0
  · subst c
    rw [if_pos (show nI 0 = 0 from nI_0)]
    exact ⟨_, _, rfl, Or.inr rfl, ⟨fun z => absurd z px_10, fun z => absurd (show nI 0 = 0 from nI_0) z⟩, fun _ => rfl⟩
  · have ne : ¬ nI W' = 0 := nI_ne0 (by omega) (by omega)
    rw [if_neg ne]
    refine ⟨_, _, rfl, Or.inl rfl, ⟨fun _ => ne, fun _ => rfl⟩, fun z => ?_⟩
    have : W = 0 := (nI_eq (b := 0) (by omega) (by decide)).mp z
    omega
theorem P_leastPace_L (hR : RR Bd K W C B set holds count free dirty kc kl qc ql told rt rc rl rs re rb te ca dr lo la lp row) (hB : Bd + 51 < 1000000000) : ∀ (k k2 i : Nat) (gset : Nat → Int32) (gholds : Nat → Int32) (gcount : Int32) (gfree : Int32) (gdirty : Int32) (gkc : Nat → Int32) (gkl : Int32) (gqc : Nat → Int32) (gql : Int32) (gtold : Nat → Int32) (grt : Int32) (grc : Int32) (grl : Int32) (grs : Int32) (gre : Int32) (grb : Int32) (gte : Int32) (gca : Int32) (gdr : Int32) (glo : Int32) (gla : Int32) (glp : Int32) (trow : Nat → Int32), i ≤ 9 → 9 < i + k → 9 < i + k2 →
    ∃ (r : Int32) (z : fcSV) (trow' : Nat → Int32), mX7_leastPace_L6 set holds count free dirty kc kl qc ql told rt rc rl rs re rb te ca dr lo la lp k (nI i) gset gcount gfree gdirty gholds gkl gkc gql gqc grt grc grl grs gre grb gtold glp gte gca gdr glo gla = (r, z) ∧ mX8_leastPace_L7 ss sp ig lf ac row k2 (nI i) trow = (r, 0, trow') := by
  intro k
  induction k with
  | zero => intro k2 i gset gholds gcount gfree gdirty gkc gkl gqc gql gtold grt grc grl grs gre grb gte gca gdr glo gla glp trow h1 h2; omega
  | succ k ih =>
    intro k2 i gset gholds gcount gfree gdirty gkc gkl gqc gql gtold grt grc grl grs gre grb gte gca gdr glo gla glp trow h1 h2 h3
    obtain ⟨k2, rfl⟩ : ∃ c, k2 = c + 1 := ⟨k2 - 1, by omega⟩
    rw [mX7_leastPace_L6_s, mX7_leastPace_S6, mX8_leastPace_L7_s, mX8_leastPace_S7]
    have zt := fc_nI (n := i) (by omega)
    have l8 : (8 : Int32).toInt = 8 := by decide
    have e8 : fcS2 (0 : Int32).toNatClampNeg = 8 := rfl
    rw [e8]
    by_cases c : i = 9
    · rw [if_pos (show 8 < nI i by rw [fc_lt]; omega), if_pos (show 8 < nI i by rw [fc_lt]; omega)]
      exact ⟨_, _, _, rfl, rfl⟩
    · rw [if_neg (show ¬ 8 < nI i by rw [fc_lt]; omega), if_neg (show ¬ 8 < nI i by rw [fc_lt]; omega)]
      obtain ⟨r, z, f1, f2, f3, f4⟩ := P_stores (ss := ss) (sp := sp) (ig := ig) (lf := lf) (ac := ac) (gset := gset) (gholds := gholds) (gcount := gcount) (gfree := gfree) (gdirty := gdirty) (gkc := gkc) (gkl := gkl) (gqc := gqc) (gql := gql) (gtold := gtold) (grt := grt) (grc := grc) (grl := grl) (grs := grs) (gre := gre) (grb := grb) (gte := gte) (gca := gca) (gdr := gdr) (glo := glo) (gla := gla) (glp := glp) (trow := trow) (pace := nI i) (p := i) hR hB rfl (by omega)
      rw [f1]
      obtain ⟨te9, ca9, dr9, lo9, la9, lp9, set9, count9, free9, dirty9, holds9, kl9, kc9, ql9, qc9, rt9, rc9, rl9, rs9, re9, rb9, told9⟩ := z
      rw [ticksIn5] at f3
      dsimp only
      rw [pl_lit0, pl_lit17]
      generalize upd (mX8_tryIt 0 ss sp ig lf ac row trow) 0 (nI i) = ra at f3 ⊢
      by_cases q : r = 0
      · rw [if_pos q, if_neg (fun w => by rw [f4 w] at q; exact absurd q px_10), if_neg (f3.mp q), nI_1]
        exact ih k2 (i + 1) set9 holds9 count9 free9 dirty9 kc9 kl9 qc9 ql9 told9 rt9 rc9 rl9 rs9 re9 rb9 te9 ca9 dr9 lo9 la9 lp9 _ (by omega) (by omega) (by omega)
      · rw [if_neg q]
        have q2 : (mX8_tick (mX8_tick (mX8_tick (mX8_tick (mX8_tick ra).2).2).2).2).2 17 = 0 := Classical.byContradiction (fun w => q (f3.mpr w))
        by_cases q3 : row 17 = 0
        · rw [if_pos q3]
          exact ⟨_, _, _, rfl, rfl⟩
        · rw [if_neg q3, if_pos q2]
          exact ⟨_, _, _, rfl, rfl⟩
theorem P_leastPace (hR : RR Bd K W C B set holds count free dirty kc kl qc ql told rt rc rl rs re rb te ca dr lo la lp row) (hB : Bd + 51 < 1000000000) : ∃ (r : Int32) (z : fcSV) (trow' : Nat → Int32), mX7_leastPace set holds count free dirty kc kl qc ql told rt rc rl rs re rb te ca dr lo la lp gset gholds gcount gfree gdirty gkc gkl gqc gql gtold grt grc grl grs gre grb gte gca gdr glo gla glp = (r, z) ∧ mX8_leastPace rf ss sp ig lf ac row trow = (r, 0, trow') := by
  unfold mX7_leastPace mX8_leastPace
  exact P_leastPace_L hR hB 11 10 0 gset gholds gcount gfree gdirty gkc gkl gqc gql gtold grt grc grl grs gre grb gte gca gdr glo gla glp trow (by omega) (by omega) (by omega)
theorem P_drops {p0 p1 : Int32} (hR : RR Bd K W C B set holds count free dirty kc kl qc ql told rt rc rl rs re rb te ca dr lo la lp row) (hB : Bd + 60 < 1000000000) : (mX7_drops set holds count free dirty kc kl qc ql told rt rc rl rs re rb te ca dr lo la lp gset gholds gcount gfree gdirty gkc gkl gqc gql gtold grt grc grl grs gre grb gte gca gdr glo gla glp p0 p1 = Sum.inl (fxE 0) ∧ mX8_drops rf ss sp ig lf ac row trow p0 p1 = (0, 1, trow)) ∨
    ∃ (r : Int32) (z : fcSV) (trow' : Nat → Int32), mX7_drops set holds count free dirty kc kl qc ql told rt rc rl rs re rb te ca dr lo la lp gset gholds gcount gfree gdirty gkc gkl gqc gql gtold grt grc grl grs gre grb gte gca gdr glo gla glp p0 p1 = Sum.inr (r, z) ∧ mX8_drops rf ss sp ig lf ac row trow p0 p1 = (r, 0, trow') := by
  unfold mX7_drops mX8_drops
  rw [px_isPic7, px_isPic8, px_isTicks7, px_isTicks8]
  by_cases c : 0 ≤ p0.toInt ∧ p0.toInt ≤ 999999
  · rw [if_pos c]
    dsimp only
    rw [if_neg px_10, if_neg px_10]
    by_cases d : 1 ≤ p1.toInt ∧ p1.toInt ≤ 50
    · right
      rw [if_pos d, if_neg px_10, if_neg px_10]
      obtain ⟨set', holds', kc', qc', told', e1, e2⟩ := R_copyFrom (gset := gset) (gholds := gholds) (gcount := gcount) (gfree := gfree) (gdirty := gdirty) (gkc := gkc) (gkl := gkl) (gqc := gqc) (gql := gql) (gtold := gtold) (grt := grt) (grc := grc) (grl := grl) (grs := grs) (gre := gre) (grb := grb) (gte := gte) (gca := gca) (gdr := gdr) (glo := glo) (gla := gla) (glp := glp) hR
      rw [e1]
      dsimp only
      have hr : RR Bd K W C B set' holds' count free dirty kc' kl qc' ql told' rt rc rl rs re rb te ca dr lo la lp (mX8_tryIt 0 ss sp ig lf ac row trow) := R_rowcopy e2
      have s6 : dr = row 6 := hR.1.1.1.2.2.2.1
      have w4 := (RR_cnt hr).2.2.2.2.2
      by_cases hW : W < 4
      · obtain ⟨qc9, row2, g1, g2, g3⟩ := R_receive hr hW c.1 (by omega)
        rw [g1, g2]
        dsimp only
        obtain ⟨K', W', B', r, free2, dirty2, holds2, kl2, kc2, ql2, qc2, rt2, rc2, rl2, rs2, re2, rb2, told2, te2, dr2, la2, row3, f1, f2, f3⟩ := R_pass g3 d.2 (by omega)
        have t6 : dr2 = row3 6 := f3.1.1.1.2.2.2.1
        rw [f1, f2]
        dsimp only
        rw [pl_lit6, ← s6, ← t6]
        exact ⟨_, _, _, rfl, rfl⟩
      · obtain rfl : W = 4 := by omega
        obtain ⟨g1, row2, g2, g3⟩ := R_receive_full hr c.1 (by omega)
        rw [g1, g2]
        dsimp only
        obtain ⟨K', W', B', r, free2, dirty2, holds2, kl2, kc2, ql2, qc2, rt2, rc2, rl2, rs2, re2, rb2, told2, te2, dr2, la2, row3, f1, f2, f3⟩ := R_pass g3 d.2 (by omega)
        have t6 : dr2 = row3 6 := f3.1.1.1.2.2.2.1
        rw [f1, f2]
        dsimp only
        rw [pl_lit6, ← s6, ← t6]
        exact ⟨_, _, _, rfl, rfl⟩
    · left
      rw [if_neg d]
      exact ⟨rfl, rfl⟩
  · left
    rw [if_neg c]
    exact ⟨rfl, rfl⟩
end
