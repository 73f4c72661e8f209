/-! PURE: commands and whole texts, on both sides -/
section
variable {L : Nat} {len ss : Int32} {signs scr : Nat → Int32} {rf sp ig lf ac : Int32}
theorem t_next {P : Nat} {c ig : Int32} (hT : TR L len ss signs scr) (hP : P < L) : mX8_isNext rf ss (nI P) ig lf ac scr c = if scr P = c then 1 else 0 := by
  have hL := hT.1
  unfold mX8_isNext
  rw [if_neg (show ¬ ss ≤ nI P by rw [hT.2.2.1]; exact nI_ge (a := P) (b := L) hP (by omega)), nI_clamp (show P < 2 ^ 31 by omega)]
theorem t_acc {P : Nat} : mX8_accept rf ss (nI P) 1 lf ac 1 = (nI (P + 1), 1) := by
  rw [fr_accept_eq, nI_1]
  exact if_neg (fun z => z.elim t_10 t_10)
theorem t_acc0 {sp' : Int32} : mX8_accept rf ss sp' 1 lf ac 0 = (sp', 0) := by
  rw [fr_accept_eq]
  exact if_pos (Or.inr rfl)
theorem t_accI {sp' p : Int32} : mX8_accept rf ss sp' 0 lf ac p = (sp', 0) := by
  rw [fr_accept_eq]
  exact if_pos (Or.inl rfl)
/-- one command -/
theorem t_cmd {P : Nat} {rrow : Nat → Int32} (hT : TR L len ss signs scr) (hP : P < L) :
    (∃ (v : Int32) (d : Nat), mX6_errorInCommand signs len (nI P) = -1 ∧ mX6_number signs len (nI (P + 1)) (mX7_digitsBehind (scr P)) = v ∧ mX7_digitsBehind (scr P) = nI d ∧ 1 ≤ d ∧ P + 1 + d ≤ L ∧
      ((scr P = 115 ∧ 0 ≤ v.toInt ∧ v.toInt ≤ 999999 ∧ mX8_readCommand rf ss (nI P) 1 lf ac scr rrow = (nI (P + 1 + d), 1, lf, (mX8_shootIn rrow v).2)) ∨
       (¬ scr P = 115 ∧ scr P = 110 ∧ 1 ≤ v.toInt ∧ v.toInt ≤ 9 ∧ mX8_readCommand rf ss (nI P) 1 lf ac scr rrow = (nI (P + 1 + d), 1, lf, (mX8_ticksIn rrow v).2)) ∨
       (¬ scr P = 115 ∧ ¬ scr P = 110 ∧ 0 ≤ v.toInt ∧ v.toInt ≤ 47 ∧ mX8_readCommand rf ss (nI P) 1 lf ac scr rrow = if rrow 16 ≤ v then (nI (P + 1 + d), 1, lf + 1, rrow) else (nI (P + 1 + d), 1, lf, (mX8_dropIn rrow v).2)))) ∨
    (∃ (Q : Nat) (lf' : Int32) (row' : Nat → Int32), mX6_errorInCommand signs len (nI P) = nI Q ∧ Q < 1000 ∧ mX8_readCommand rf ss (nI P) 1 lf ac scr rrow = (nI Q, 0, lf', row')) := by
  have hL := hT.1
  have z1 : (1 : Int32).toInt = 1 := by decide
  have z9 : (9 : Int32).toInt = 9 := by decide
  have z0 : (0 : Int32).toInt = 0 := by decide
  have z47 : (47 : Int32).toInt = 47 := by decide
  unfold mX6_errorInCommand mX8_readCommand mX7_digitsBehind
  rw [t_sign hT (by omega), if_pos hP, nI_1, t_next hT hP, t_next hT hP, t_next hT hP]
  dsimp only
  by_cases c1 : scr P = 115
  · rw [c1, if_neg (show ¬ (115 : Int32) = 100 by decide), if_neg (show ¬ (115 : Int32) = 110 by decide), if_pos (show (115 : Int32) = 115 from rfl), if_neg (show ¬ (115 : Int32) = 100 by decide), if_pos (show (115 : Int32) = 115 from rfl), if_pos (show (115 : Int32) = 115 from rfl), if_neg t_10]
    unfold mX8_readPicture
    rw [t_acc]
    rcases t_six (P := P + 1) (rf := rf) (lf := lf) (ac := ac) (rrow := rrow) hT (by omega) with ⟨v, e1, e2, e3, e4, e5, e6⟩ | ⟨Q, e1, e2, e3⟩
    · left
      rw [e3]
      exact ⟨v, 6, e1, e2, rfl, by omega, by omega, Or.inl ⟨rfl, e4, e5, rfl⟩⟩
    · right
      rw [e2]
      exact ⟨Q, lf, rrow, e1, e3, rfl⟩
  · rw [if_neg (show ¬ scr P = 115 from c1), if_neg (show ¬ scr P = 115 from c1), if_neg (show ¬ scr P = 115 from c1), if_pos (show (0 : Int32) = 0 from rfl)]
    by_cases c2 : scr P = 110
    · rw [c2, if_neg (show ¬ (110 : Int32) = 100 by decide), if_neg (show ¬ (110 : Int32) = 100 by decide), if_neg (show ¬ (110 : Int32) = 100 by decide), if_pos (show (110 : Int32) = 110 from rfl), if_pos (show (110 : Int32) = 110 from rfl), if_pos (show (0 : Int32) = 0 from rfl), t_acc]
      unfold mX8_readCommand_C6
      dsimp only
      rcases t_one (P := P + 1) (rf := rf) (lf := lf) (ac := ac) hT (by omega) z1 z9 with ⟨e1, e2, e3, e4⟩ | ⟨e1, e2⟩
      · left
        rw [e4]
        unfold mX8_readCommand_C7
        dsimp only
        rw [if_neg t_10]
        have v := t_val hT e1.1.1
        exact ⟨scr (P + 1) - 48, 1, e2, e3, rfl, by omega, by have := e1.1.1; omega, Or.inr (Or.inl ⟨by decide, rfl, by have := e1.2.1; omega, by have := e1.2.2; omega, rfl⟩)⟩
      · right
        rw [e2]
        unfold mX8_readCommand_C7
        dsimp only
        rw [if_pos rfl]
        exact ⟨P + 1, lf, _, e1, by omega, rfl⟩
    · by_cases c3 : scr P = 100
      · rw [c3, if_pos (show (100 : Int32) = 100 from rfl), if_pos (show (100 : Int32) = 100 from rfl), if_pos (show (100 : Int32) = 100 from rfl), if_neg t_10]
        unfold mX8_readDrop
        rw [t_acc]
        unfold mX8_readDrop_C1
        dsimp only
        rcases t_two (P := P + 1) (rf := rf) (lf := lf) (ac := ac) hT (by omega) z0 z47 (by omega) with ⟨v, e1, e2, e3, e4, e5, e6⟩ | ⟨v, Q, e1, e2, e3⟩
        · left
          rw [e3]
          unfold mX8_readDrop_C2
          dsimp only
          rw [if_neg t_10, pl_lit16]
          refine ⟨v, 2, e1, e2, rfl, by omega, by omega, Or.inr (Or.inr ⟨by decide, by decide, e4, e5, ?_⟩)⟩
          by_cases c4 : rrow 16 ≤ v
          · rw [if_pos c4, if_pos c4]; rfl
          · rw [if_neg c4, if_neg c4]
            unfold mX8_readDrop_C7
            rw [Int32.add_zero]
            rfl
        · right
          rw [e2]
          unfold mX8_readDrop_C2
          dsimp only
          rw [if_pos rfl]
          exact ⟨Q, lf, rrow, e1, e3, rfl⟩
      · right
        rw [if_neg (show ¬ scr P = 100 from c3), if_neg (show ¬ scr P = 100 from c3), if_neg (show ¬ scr P = 110 from c2), if_neg (show ¬ scr P = 110 from c2), if_pos (show (0 : Int32) = 0 from rfl), t_acc0]
        unfold mX8_readCommand_C6
        dsimp only
        rw [t_d0]
        unfold mX8_readCommand_C7
        dsimp only
        rw [if_pos rfl]
        exact ⟨P, lf, _, rfl, by omega, rfl⟩
theorem t_ne1 {Q : Nat} (h : Q < 1000) : ¬ nI Q = -1 := by
  have e := fc_nI (n := Q) (by omega)
  have l := pz_1
  rw [fc_eq]
  omega
theorem t_bad {k Q : Nat} {x2 x3 : Int32} (h : Q < 1000) : mX6_firstError_L10 signs len (k + 1) (nI Q) x2 x3 = nI Q := by
  rw [mX6_firstError_L10_s, mX6_firstError_S10]
  by_cases c : 120 ≤ x3
  · rw [if_pos c]
  · rw [if_neg c, if_neg (t_ne1 h)]
theorem t_end {k : Nat} {r3 r4 r5 sp' lf' : Int32} {row' : Nat → Int32} : mX8_readText_L67 rf ss ac scr r3 r4 r5 (k + 1) sp' 0 lf' row' = (sp', sp', 0, lf', row') := by
  rw [mX8_readText_L67_s, mX8_readText_S67, if_pos rfl]
/-- the commands: the first mistake -/
theorem t_first {r3 r4 r5 : Int32} (hT : TR L len ss signs scr) : ∀ (k k' n P : Nat) (lf : Int32) (rrow : Nat → Int32), P ≤ L → L < P + k → L + 1 < P + k' → n + L ≤ 119 + P →
    (∃ sp' ig' lf' row', mX6_firstError_L10 signs len k (-1) (nI P) (nI n) = -1 ∧ mX8_readText_L67 rf ss ac scr r3 r4 r5 k' (nI P) 1 lf rrow = (-1, sp', ig', lf', row')) ∨
    (∃ Q lf' row', mX6_firstError_L10 signs len k (-1) (nI P) (nI n) = nI Q ∧ Q < 1000 ∧ mX8_readText_L67 rf ss ac scr r3 r4 r5 k' (nI P) 1 lf rrow = (nI Q, nI Q, 0, lf', row')) := by
  intro k
  have hL := hT.1
  induction k with
  | zero => intro k' n P lf rrow h1 h2; omega
  | succ k ih =>
    intro k' n P lf rrow h1 h2 h3 h4
    obtain ⟨k', rfl⟩ : ∃ m, k' = m + 1 := ⟨k' - 1, by omega⟩
    rw [mX6_firstError_L10_s, mX6_firstError_S10, mX8_readText_L67_s, mX8_readText_S67, if_neg (show ¬ (120 : Int32) ≤ nI n from nI_ge (a := n) (b := 120) (by omega) (by omega)), if_pos (show (-1 : Int32) = -1 from rfl), if_neg t_10]
    by_cases c : P = L
    · left
      subst c
      rw [if_pos (show len ≤ nI P by rw [hT.2.1]; exact nI_le (Nat.le_refl P) (by omega)), if_pos (show ss ≤ nI P by rw [hT.2.2.1]; exact nI_le (Nat.le_refl P) (by omega))]
      exact ⟨_, _, _, _, rfl, rfl⟩
    · have hP : P < L := by omega
      rw [if_neg (show ¬ len ≤ nI P by rw [hT.2.1]; exact nI_ge (a := P) (b := L) hP (by omega)), if_neg (show ¬ ss ≤ nI P by rw [hT.2.2.1]; exact nI_ge (a := P) (b := L) hP (by omega)), t_sign hT (by omega), if_pos hP]
      dsimp only
      unfold mX8_readText_C12
      rcases t_cmd (rf := rf) (lf := lf) (ac := ac) (rrow := rrow) hT hP with ⟨v, d, e1, e2, e3, e4, e5, e6⟩ | ⟨Q, lf', row', e1, e2, e3⟩
      · rw [e1, e3, nI_1, nI_1, nI_add]
        have fin : ∀ (lf' : Int32) (row' : Nat → Int32), mX8_readCommand rf ss (nI P) 1 lf ac scr rrow = (nI (P + 1 + d), 1, lf', row') → (∃ sp2 ig2 lf2 row2, mX6_firstError_L10 signs len k (-1) (nI (P + 1 + d)) (nI (n + 1)) = -1 ∧ mX8_readText_L67 rf ss ac scr r3 r4 r5 k' (mX8_readCommand rf ss (nI P) 1 lf ac scr rrow).1 (mX8_readCommand rf ss (nI P) 1 lf ac scr rrow).2.1 (mX8_readCommand rf ss (nI P) 1 lf ac scr rrow).2.2.1 (mX8_readCommand rf ss (nI P) 1 lf ac scr rrow).2.2.2 = (-1, sp2, ig2, lf2, row2)) ∨
            (∃ Q lf2 row2, mX6_firstError_L10 signs len k (-1) (nI (P + 1 + d)) (nI (n + 1)) = nI Q ∧ Q < 1000 ∧ mX8_readText_L67 rf ss ac scr r3 r4 r5 k' (mX8_readCommand rf ss (nI P) 1 lf ac scr rrow).1 (mX8_readCommand rf ss (nI P) 1 lf ac scr rrow).2.1 (mX8_readCommand rf ss (nI P) 1 lf ac scr rrow).2.2.1 (mX8_readCommand rf ss (nI P) 1 lf ac scr rrow).2.2.2 = (nI Q, nI Q, 0, lf2, row2)) := by
          intro lf' row' e
          rw [e]
          exact ih k' (n + 1) (P + 1 + d) lf' row' (by omega) (by omega) (by omega) (by omega)
        rcases e6 with ⟨-, -, -, e⟩ | ⟨-, -, -, -, e⟩ | ⟨-, -, -, -, e⟩
        · exact fin _ _ e
        · exact fin _ _ e
        · by_cases c4 : rrow 16 ≤ v
          · rw [if_pos c4] at e; exact fin _ _ e
          · rw [if_neg c4] at e; exact fin _ _ e
      · right
        obtain ⟨k, rfl⟩ : ∃ m, k = m + 1 := ⟨k - 1, by omega⟩
        obtain ⟨k', rfl⟩ : ∃ m, k' = m + 1 := ⟨k' - 1, by omega⟩
        rw [e1, e3, t_bad e2]
        dsimp only
        rw [t_end]
        exact ⟨Q, lf', row', rfl, e2, rfl⟩
/-- the commands done -/
theorem t_do {C : Nat} {set : Nat → Int32} {count r3 r4 r5 : Int32} (hT : TR L len ss signs scr) : ∀ (k k2 k' n n2 P Bd K W B : Nat) (lf : Int32) (free : Int32) (dirty : Int32) (holds : Nat → Int32) (kl : Int32) (kc : Nat → Int32) (ql : Int32) (qc : Nat → Int32) (rt : Int32) (rc : Int32) (rl : Int32) (rs : Int32) (re : Int32) (rb : Int32) (told : Nat → Int32) (lp : Int32) (te : Int32) (ca : Int32) (dr : Int32) (lo : Int32) (la : Int32) (row : Nat → Int32), RR Bd K W C B set holds count free dirty kc kl qc ql told rt rc rl rs re rb te ca dr lo la lp row → P ≤ L → L < P + k → L < P + k2 → L + 1 < P + k' → n + L ≤ 119 + P → n2 + L ≤ 119 + P → Bd + 51 * (L - P) < 1000000000 → mX6_firstError_L10 signs len k2 (-1) (nI P) (nI n2) = -1 →
    ∃ (r : Int32) (te' : Int32) (ca' : Int32) (dr' : Int32) (lo' : Int32) (la' : Int32) (lp' : Int32) (free' : Int32) (dirty' : Int32) (holds' : Nat → Int32) (kl' : Int32) (kc' : Nat → Int32) (ql' : Int32) (qc' : Nat → Int32) (rt' : Int32) (rc' : Int32) (rl' : Int32) (rs' : Int32) (re' : Int32) (rb' : Int32) (told' : Nat → Int32) (K' W' B' : Nat) (sp' : Int32) (row' : Nat → Int32), mX7_doCommands_L7 signs len set count k lf (nI P) (nI n) free dirty holds kl kc ql qc rt rc rl rs re rb told lp te ca dr lo la = (r, te', ca', dr', lo', la', lp', free', dirty', holds', kl', kc', ql', qc', rt', rc', rl', rs', re', rb', told') ∧ mX8_readText_L67 rf ss ac scr r3 r4 r5 k' (nI P) 1 lf row = (-1, sp', 1, r, row') ∧ RR (Bd + 51 * (L - P)) K' W' C B' set holds' count free' dirty' kc' kl' qc' ql' told' rt' rc' rl' rs' re' rb' te' ca' dr' lo' la' lp' row' := by
  intro k
  have hL := hT.1
  induction k with
  | zero => intro k2 k' n n2 P Bd K W B lf free dirty holds kl kc ql qc rt rc rl rs re rb told lp te ca dr lo la row hR h1 h2; omega
  | succ k ih =>
    intro k2 k' n n2 P Bd K W B lf free dirty holds kl kc ql qc rt rc rl rs re rb told lp te ca dr lo la row hR h1 h2 h3 h4 h5 h6 h7 hE
    obtain ⟨k', rfl⟩ : ∃ m, k' = m + 1 := ⟨k' - 1, by omega⟩
    obtain ⟨k2, rfl⟩ : ∃ m, k2 = m + 1 := ⟨k2 - 1, by omega⟩
    rw [mX7_doCommands_L7_s, mX7_doCommands_S7, mX8_readText_L67_s, mX8_readText_S67, if_neg (show ¬ (120 : Int32) ≤ nI n from nI_ge (a := n) (b := 120) (by omega) (by omega)), if_neg t_10]
    rw [mX6_firstError_L10_s, mX6_firstError_S10, if_neg (show ¬ (120 : Int32) ≤ nI n2 from nI_ge (a := n2) (b := 120) (by omega) (by omega)), if_pos (show (-1 : Int32) = -1 from rfl)] at hE
    by_cases c : P = L
    · subst c
      rw [if_pos (show len ≤ nI P by rw [hT.2.1]; exact nI_le (Nat.le_refl P) (by omega)), if_pos (show ss ≤ nI P by rw [hT.2.2.1]; exact nI_le (Nat.le_refl P) (by omega))]
      exact ⟨_, _, _, _, _, _, _, _, _, _, _, _, _, _, _, _, _, _, _, _, _, K, W, B, _, row, rfl, rfl, RR_mono hR (by omega)⟩
    · have hP : P < L := by omega
      rw [if_neg (show ¬ len ≤ nI P by rw [hT.2.1]; exact nI_ge (a := P) (b := L) hP (by omega)), t_sign hT (by omega), if_pos hP] at hE
      rw [if_neg (show ¬ len ≤ nI P by rw [hT.2.1]; exact nI_ge (a := P) (b := L) hP (by omega)), if_neg (show ¬ ss ≤ nI P by rw [hT.2.2.1]; exact nI_ge (a := P) (b := L) hP (by omega)), t_sign hT (by omega), if_pos hP]
      dsimp only at hE ⊢
      unfold mX8_readText_C12
      rcases t_cmd (rf := rf) (lf := lf) (ac := ac) (rrow := row) hT hP with ⟨v, d, e1, e2, e3, e4, e5, e6⟩ | ⟨Q, lf', row', e1, e2, e3⟩
      · rw [e1, e3, nI_1, nI_1, nI_add] at hE
        rw [e3] at e2
        rw [e3, nI_1, nI_1, nI_add, e2]
        rcases e6 with ⟨c1, v0, v1, e⟩ | ⟨c0, c1, v0, v1, e⟩ | ⟨c0, c1, v0, v1, e⟩
        · rw [if_pos c1, e]
          dsimp only
          have w4 := (RR_cnt hR).2.2.2.2.2
          by_cases hW : W < 4
          · obtain ⟨qc', row2, g1, g2, g3⟩ := R_receive hR hW v0 (by omega)
            rw [g1, g2]
            dsimp only
            obtain ⟨r1, te1, ca1, dr1, lo1, la1, lp1, free1, dirty1, holds1, kl1, kc1, ql1, qc1, rt1, rc1, rl1, rs1, re1, rb1, told1, K', W', B', sp', row', q1, q2, q3⟩ := ih k2 k' (n + 1) (n2 + 1) (P + 1 + d) (Bd + 51) _ _ _ lf _ _ _ _ _ _ _ _ _ _ _ _ _ _ _ _ _ _ _ _ _ (RR_mono g3 (by omega)) (by omega) (by omega) (by omega) (by omega) (by omega) (by omega) (by omega) hE
            exact ⟨r1, te1, ca1, dr1, lo1, la1, lp1, free1, dirty1, holds1, kl1, kc1, ql1, qc1, rt1, rc1, rl1, rs1, re1, rb1, told1, K', W', B', sp', row', q1, q2, RR_mono q3 (by omega)⟩
          · obtain rfl : W = 4 := by omega
            obtain ⟨g1, row2, g2, g3⟩ := R_receive_full hR v0 (by omega)
            rw [g1, g2]
            dsimp only
            obtain ⟨r1, te1, ca1, dr1, lo1, la1, lp1, free1, dirty1, holds1, kl1, kc1, ql1, qc1, rt1, rc1, rl1, rs1, re1, rb1, told1, K', W', B', sp', row', q1, q2, q3⟩ := ih k2 k' (n + 1) (n2 + 1) (P + 1 + d) (Bd + 51) _ _ _ lf _ _ _ _ _ _ _ _ _ _ _ _ _ _ _ _ _ _ _ _ _ (RR_mono g3 (by omega)) (by omega) (by omega) (by omega) (by omega) (by omega) (by omega) (by omega) hE
            exact ⟨r1, te1, ca1, dr1, lo1, la1, lp1, free1, dirty1, holds1, kl1, kc1, ql1, qc1, rt1, rc1, rl1, rs1, re1, rb1, told1, K', W', B', sp', row', q1, q2, RR_mono q3 (by omega)⟩
        · rw [if_neg c0, if_pos c1, e]
          dsimp only
          obtain ⟨K2, W2, B2, r2, free2, dirty2, holds2, kl2, kc2, ql2, qc2, rt2, rc2, rl2, rs2, re2, rb2, told2, te2, dr2, la2, row2, g1, g2, g3⟩ := R_pass hR (show v.toInt ≤ 50 by omega) (by omega)
          rw [g1, g2]
          dsimp only
          obtain ⟨r1, te1, ca1, dr1, lo1, la1, lp1, free1, dirty1, holds1, kl1, kc1, ql1, qc1, rt1, rc1, rl1, rs1, re1, rb1, told1, K', W', B', sp', row', q1, q2, q3⟩ := ih k2 k' (n + 1) (n2 + 1) (P + 1 + d) (Bd + 51) _ _ _ lf _ _ _ _ _ _ _ _ _ _ _ _ _ _ _ _ _ _ _ _ _ (RR_mono g3 (by omega)) (by omega) (by omega) (by omega) (by omega) (by omega) (by omega) (by omega) hE
          exact ⟨r1, te1, ca1, dr1, lo1, la1, lp1, free1, dirty1, holds1, kl1, kc1, ql1, qc1, rt1, rc1, rl1, rs1, re1, rb1, told1, K', W', B', sp', row', q1, q2, RR_mono q3 (by omega)⟩
        · obtain ⟨k1, k2', k3, -, -, -⟩ := RR_cnt hR
          have zK := fc_nI (n := K) (by omega)
          obtain ⟨ev, -, zv⟩ := fx_nn v0
          rw [if_neg c0, if_neg c1, e, k2', k1]
          by_cases c4 : nI K ≤ v
          · have c5 : K ≤ v.toNatClampNeg := by
              rw [fc_le] at c4; omega
            rw [if_pos c4, show mX1_has (nI K) v = 0 by exact pg_has0 (Or.inr (by omega))]
            dsimp only
            rw [if_pos rfl]
            rw [← k1]
            obtain ⟨r1, te1, ca1, dr1, lo1, la1, lp1, free1, dirty1, holds1, kl1, kc1, ql1, qc1, rt1, rc1, rl1, rs1, re1, rb1, told1, K', W', B', sp', row', q1, q2, q3⟩ := ih k2 k' (n + 1) (n2 + 1) (P + 1 + d) (Bd + 51) _ _ _ (lf + 1) _ _ _ _ _ _ _ _ _ _ _ _ _ _ _ _ _ _ _ _ _ (RR_mono hR (show Bd ≤ Bd + 51 by omega)) (by omega) (by omega) (by omega) (by omega) (by omega) (by omega) (by omega) hE
            exact ⟨r1, te1, ca1, dr1, lo1, la1, lp1, free1, dirty1, holds1, kl1, kc1, ql1, qc1, rt1, rc1, rl1, rs1, re1, rb1, told1, K', W', B', sp', row', q1, q2, RR_mono q3 (by omega)⟩
          · have c5 : v.toNatClampNeg < K := by
              rw [fc_le] at c4; omega
            rw [if_neg c4, show mX1_has (nI K) v = 1 by rw [ev]; exact pg_has (by omega) (by omega)]
            dsimp only
            rw [if_neg t_10]
            rw [← k1]
            obtain ⟨d', h9, kc', row2, g1, g2, g3⟩ := R_drop hR c5
            rw [← ev] at g1 g2
            rw [g1, g2]
            dsimp only
            obtain ⟨r1, te1, ca1, dr1, lo1, la1, lp1, free1, dirty1, holds1, kl1, kc1, ql1, qc1, rt1, rc1, rl1, rs1, re1, rb1, told1, K', W', B', sp', row', q1, q2, q3⟩ := ih k2 k' (n + 1) (n2 + 1) (P + 1 + d) (Bd + 51) _ _ _ lf _ _ _ _ _ _ _ _ _ _ _ _ _ _ _ _ _ _ _ _ _ (RR_mono g3 (by omega)) (by omega) (by omega) (by omega) (by omega) (by omega) (by omega) (by omega) hE
            exact ⟨r1, te1, ca1, dr1, lo1, la1, lp1, free1, dirty1, holds1, kl1, kc1, ql1, qc1, rt1, rc1, rl1, rs1, re1, rb1, told1, K', W', B', sp', row', q1, q2, RR_mono q3 (by omega)⟩
      · exfalso
        obtain ⟨k2, rfl⟩ : ∃ m, k2 = m + 1 := ⟨k2 - 1, by omega⟩
        rw [e1, t_bad e2] at hE
        exact t_ne1 e2 hE
end
