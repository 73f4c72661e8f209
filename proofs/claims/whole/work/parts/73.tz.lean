/-! PURE: the whole text, and the slots, on both sides -/
section
variable {L : Nat} {len ss : Int32} {signs scr : Nat → Int32} {rf sp ig lf ac : Int32}
theorem t_C6 {rrow : Nat → Int32} {r3 r4 r5 v sp' : Int32} : ∃ row', mX8_readText_C6 rf ss ac scr rrow r3 r4 r5 (v, sp', 0) = (sp', sp', 0, 0, row') := by
  unfold mX8_readText_C6
  exact ⟨_, t_end (k := 121)⟩
theorem t_C5 {rrow : Nat → Int32} {r3 r4 v sp' : Int32} : ∃ row', mX8_readText_C5 rf ss ac scr rrow r3 r4 (v, sp', 0) = (sp', sp', 0, 0, row') := by
  unfold mX8_readText_C5
  obtain ⟨w, e⟩ := t_two0 (rf := rf) (ss := ss) (sp := sp') (lf := 0) (ac := ac) (scr := scr) (lo := 1) (hi := 20)
  dsimp only
  rw [e]
  exact t_C6
theorem t_C4 {rrow : Nat → Int32} {r3 v sp' : Int32} : ∃ row', mX8_readText_C4 rf ss ac scr rrow r3 (v, sp', 0) = (sp', sp', 0, 0, row') := by
  unfold mX8_readText_C4
  dsimp only
  rw [t_d0]
  exact t_C5
theorem t_C3 {rrow : Nat → Int32} {v sp' : Int32} : ∃ row', mX8_readText_C3 rf ss ac scr rrow (v, sp', 0) = (sp', sp', 0, 0, row') := by
  unfold mX8_readText_C3
  dsimp only
  rw [t_d0]
  exact t_C4
theorem t_C2 {rrow : Nat → Int32} {sp' : Int32} : ∃ row', mX8_readText_C2 rf ss ac scr rrow (sp', 0) = (sp', sp', 0, 0, row') := by
  unfold mX8_readText_C2
  obtain ⟨w, e⟩ := t_two0 (rf := rf) (ss := ss) (sp := sp') (lf := 0) (ac := ac) (scr := scr) (lo := 8) (hi := 48)
  dsimp only
  rw [e]
  exact t_C3
theorem t_nn {v : Int32} {a b : Int} (h0 : 0 ≤ a) (h1 : a ≤ v.toInt) (h2 : v.toInt ≤ b) (hb : b < 1000) : ∃ n : Nat, v = nI n ∧ (n : Int) = v.toInt := by
  obtain ⟨e, -, z⟩ := fx_nn (x := v) (by omega)
  exact ⟨_, e, z⟩
/-- the text's head -/
theorem t_headR {rrow : Nat → Int32} (hT : TR L len ss signs scr) :
    (∃ (C p : Nat) (x y : Int32), mX6_errorInHead signs len = -1 ∧ mX6_number signs len 1 2 = nI C ∧ mX6_number signs len 3 1 = nI p ∧ mX6_number signs len 4 1 = x ∧ mX6_number signs len 5 2 = y ∧ (8 ≤ C ∧ C ≤ 48) ∧ p < 1000 ∧ 7 ≤ L ∧
      mX8_readText rf ss sp ig lf ac scr rrow = mX8_readText_L67 rf ss ac scr (nI C) (nI p) x 122 (nI 7) 1 0 (pN (nI C) (nI p) x y rrow)) ∨
    (∃ Q row', mX6_errorInHead signs len = nI Q ∧ Q < 1000 ∧ mX8_readText rf ss sp ig lf ac scr rrow = (nI Q, nI Q, 0, 0, row')) := by
  have hL := hT.1
  have f10 : fcS1 (0 : Int32).toNatClampNeg = 0 := by rw [pl_lit0]; rfl
  have f20 : fcS2 (0 : Int32).toNatClampNeg = 8 := by rw [pl_lit0]; rfl
  have f11 : fcS1 (1 : Int32).toNatClampNeg = 0 := by rw [pl_lit1]; rfl
  have f21 : fcS2 (1 : Int32).toNatClampNeg = 9 := by rw [pl_lit1]; rfl
  have f12 : fcS1 (2 : Int32).toNatClampNeg = 1 := by rw [pl_lit2]; rfl
  have f22 : fcS2 (2 : Int32).toNatClampNeg = 20 := by rw [pl_lit2]; rfl
  have z0 : (0 : Int32).toInt = 0 := by decide
  have z1 : (1 : Int32).toInt = 1 := by decide
  have z8 : (8 : Int32).toInt = 8 := by decide
  have z9 : (9 : Int32).toInt = 9 := by decide
  have z20 : (20 : Int32).toInt = 20 := by decide
  have z48 : (48 : Int32).toInt = 48 := by decide
  have hs : mX6_signAt signs len 0 = if 0 < L then scr 0 else -1 := t_sign (P := 0) hT (by omega)
  unfold mX6_errorInHead mX8_readText
  rw [f10, f20, f11, f21, f12, f22, hs]
  dsimp only
  by_cases c : 0 < L ∧ scr 0 = 67
  · have hn : mX8_isNext rf ss 0 1 0 ac scr 67 = 1 := (t_next (P := 0) (c := 67) (ig := 1) (lf := 0) hT c.1).trans (if_pos c.2)
    have ha : mX8_accept rf ss 0 1 0 ac 1 = (nI 1, 1) := t_acc (P := 0)
    rw [if_pos c.1, if_pos c.2, hn, ha]
    unfold mX8_readText_C2
    dsimp only
    rcases t_two (P := 1) (rf := rf) (lf := 0) (ac := ac) hT (by omega) z8 z48 (by omega) with ⟨v, e1, e2, e3, e4, e5, e6⟩ | ⟨v, Q, e1, e3, e6⟩
    · have e1' : mX6_errorInNumber signs len 1 2 8 48 = -1 := e1
      have e2' : mX6_number signs len 1 2 = v := e2
      rw [e1', if_pos rfl, e3]
      unfold mX8_readText_C3
      dsimp only
      rcases t_one (P := 3) (rf := rf) (lf := 0) (ac := ac) hT (by omega) z0 z8 with ⟨g1, g2, g3, g4⟩ | ⟨g1, g2⟩
      · have g2' : mX6_errorInNumber signs len 3 1 0 8 = -1 := g2
        have g3' : mX6_number signs len 3 1 = scr 3 - 48 := g3
        have g4' : mX8_digit rf ss (nI (1 + 2)) 1 0 ac scr 0 8 = (scr 3 - 48, nI 4, 1) := g4
        rw [g2', if_pos rfl, g4']
        unfold mX8_readText_C4
        dsimp only
        rcases t_one (P := 4) (rf := rf) (lf := 0) (ac := ac) hT (by omega) z0 z9 with ⟨h1, h2, h3, h4⟩ | ⟨h1, h2⟩
        · have h2' : mX6_errorInNumber signs len 4 1 0 9 = -1 := h2
          have h3' : mX6_number signs len 4 1 = scr 4 - 48 := h3
          rw [h2', if_pos rfl, h4]
          unfold mX8_readText_C5
          dsimp only
          rcases t_two (P := 5) (rf := rf) (lf := 0) (ac := ac) hT (by omega) z1 z20 (by omega) with ⟨w, i1, i2, i3, i4, i5, i6⟩ | ⟨w, Q, i1, i3, i6⟩
          · left
            have i1' : mX6_errorInNumber signs len 5 2 1 20 = -1 := i1
            have i2' : mX6_number signs len 5 2 = w := i2
            have i3' : mX8_two rf ss (nI (4 + 1)) 1 0 ac scr 1 20 = (w, nI 7, 1) := i3
            rw [i3', i1', e2', g3', h3', i2']
            unfold mX8_readText_C6
            dsimp only
            rw [r_clean]
            obtain ⟨C, q1, q2⟩ := t_nn (by omega) e4 e5 (by omega)
            have v3 := t_val hT g1.1.1
            obtain ⟨p, q3, q4⟩ := t_nn (v := scr 3 - 48) (a := 0) (b := 8) (by omega) (by rw [v3]; exact g1.2.1) (by rw [v3]; exact g1.2.2) (by omega)
            rw [q1, q3]
            rw [v3] at q4
            have g12 := g1.2.2
            refine ⟨C, p, scr 4 - 48, w, rfl, rfl, rfl, rfl, rfl, ⟨by omega, by omega⟩, by omega, by omega, rfl⟩
          · right
            have i1' : mX6_errorInNumber signs len 5 2 1 20 = nI Q := i1
            have i3' : mX8_two rf ss (nI (4 + 1)) 1 0 ac scr 1 20 = (w, nI Q, 0) := i3
            rw [i3', i1']
            obtain ⟨row', e⟩ := t_C6 (rf := rf) (ss := ss) (ac := ac) (scr := scr) (rrow := rrow) (r3 := v) (r4 := scr 3 - 48) (r5 := scr 4 - 48) (v := w) (sp' := nI Q)
            exact ⟨Q, row', rfl, i6, e⟩
        · right
          have h1' : mX6_errorInNumber signs len 4 1 0 9 = nI 4 := h1
          rw [h1', if_neg (t_ne1 (Q := 4) (by omega)), h2]
          obtain ⟨row', e⟩ := t_C5 (rf := rf) (ss := ss) (ac := ac) (scr := scr) (rrow := rrow) (r3 := v) (r4 := scr 3 - 48) (v := 0) (sp' := nI 4)
          exact ⟨4, row', rfl, by omega, e⟩
      · right
        have g1' : mX6_errorInNumber signs len 3 1 0 8 = nI 3 := g1
        have g2' : mX8_digit rf ss (nI (1 + 2)) 1 0 ac scr 0 8 = (0, nI 3, 0) := g2
        rw [g1', if_neg (t_ne1 (Q := 3) (by omega)), g2']
        obtain ⟨row', e⟩ := t_C4 (rf := rf) (ss := ss) (ac := ac) (scr := scr) (rrow := rrow) (r3 := v) (v := 0) (sp' := nI 3)
        exact ⟨3, row', rfl, by omega, e⟩
    · right
      have e1' : mX6_errorInNumber signs len 1 2 8 48 = nI Q := e1
      rw [e1', if_neg (t_ne1 e6), e3]
      obtain ⟨row', e⟩ := t_C3 (rf := rf) (ss := ss) (ac := ac) (scr := scr) (rrow := rrow) (v := v) (sp' := nI Q)
      exact ⟨Q, row', rfl, e6, e⟩
  · right
    have hh : ¬ (if 0 < L then scr 0 else -1) = 67 := by
      by_cases d : 0 < L
      · rw [if_pos d]; exact fun z => c ⟨d, z⟩
      · rw [if_neg d]; decide
    have hn : mX8_isNext rf ss 0 1 0 ac scr 67 = 0 := by
      by_cases d : 0 < L
      · exact (t_next (P := 0) (c := 67) (ig := 1) (lf := 0) hT d).trans (if_neg (fun z => c ⟨d, z⟩))
      · unfold mX8_isNext
        refine if_pos ?_
        rw [hT.2.2.1]
        exact nI_le (a := L) (b := 0) (by omega) (by omega)
    rw [if_neg hh, hn, t_acc0]
    obtain ⟨row', e⟩ := t_C2 (rf := rf) (ss := ss) (ac := ac) (scr := scr) (rrow := rrow) (sp' := 0)
    exact ⟨0, row', rfl, by omega, e⟩
theorem P_errorPosition {rrow : Nat → Int32} (hT : TR L len ss signs scr) : ∃ sp' ig' lf' row', mX8_errorPosition rf ss sp ig lf ac scr rrow = (mX7_errorPosition signs len, 0, sp', ig', lf', row') := by
  have hL := hT.1
  unfold mX8_errorPosition mX7_errorPosition mX6_firstError
  dsimp only
  rcases t_headR (rf := 0) (sp := sp) (ig := ig) (lf := lf) (ac := ac) (rrow := rrow) hT with ⟨C, p, x, y, e1, -, -, -, -, -, -, e7, e8⟩ | ⟨Q, row', e1, e2, e3⟩
  · rw [e1, e8]
    rcases t_first (rf := 0) (ac := ac) (r3 := nI C) (r4 := nI p) (r5 := x) hT 121 122 0 7 0 (pN (nI C) (nI p) x y rrow) e7 (by omega) (by omega) (by omega) with ⟨sp', ig', lf', row', q1, q2⟩ | ⟨Q, lf', row', q1, q2, q3⟩
    · have q1' : mX6_firstError_L10 signs len 121 (-1) 7 0 = -1 := q1
      rw [q1', q2]
      exact ⟨_, _, _, _, rfl⟩
    · have q1' : mX6_firstError_L10 signs len 121 (-1) 7 0 = nI Q := q1
      rw [q1', q3]
      exact ⟨_, _, _, _, rfl⟩
  · rw [e1, e3]
    have q : mX6_firstError_L10 signs len 121 (nI Q) 7 0 = nI Q := t_bad (k := 120) e2
    rw [q]
    exact ⟨_, _, _, _, rfl⟩
theorem t_char {x : Int32} (h0 : 0 ≤ x.toInt) (h1 : x.toInt ≤ 255) : (x.toUInt32 % 65536).toInt32 = x := by
  obtain ⟨e, -, z⟩ := fx_nn h0
  have h : x.toNatClampNeg < 256 := by omega
  rw [e]
  generalize x.toNatClampNeg = n at h
  have : ∀ n : Fin 256, ((nI n.val).toUInt32 % 65536).toInt32 = nI n.val := by decide +kernel
  exact this ⟨n, h⟩
theorem P_append {p0 : Int32} (hT : TR L len ss signs scr) : (mX7_append signs len p0 = Sum.inl (fxE 0) ∧ mX8_append rf ss sp ig lf ac scr p0 = (0, 1, ss, scr)) ∨ (mX7_append signs len p0 = Sum.inl (fxE 1) ∧ mX8_append rf ss sp ig lf ac scr p0 = (0, 2, ss, scr)) ∨
    ∃ r len' signs' scr', mX7_append signs len p0 = Sum.inr (r, len', signs') ∧ mX8_append rf ss sp ig lf ac scr p0 = (r, 0, len', scr') ∧ TR (L + 1) len' len' signs' scr' := by
  have l0 : (0 : Int32).toInt = 0 := by decide
  have l255 : (255 : Int32).toInt = 255 := by decide
  obtain ⟨hL, hl, hs, hS⟩ := hT
  unfold mX7_append mX8_append
  by_cases c1 : p0.toInt < 0
  · left
    rw [if_pos (show p0 < 0 by rw [fc_lt]; omega), fx_in4 (Int32.toInt_toInt64 _) (show (0 : Int64).toInt = 0 by decide) (show (255 : Int64).toInt = 255 by decide), if_neg (show ¬ (0 ≤ p0.toInt ∧ p0.toInt ≤ 255) by omega)]
    exact ⟨rfl, rfl⟩
  · rw [if_neg (show ¬ p0 < 0 by rw [fc_lt]; omega)]
    by_cases c2 : p0.toInt ≤ 255
    · rw [if_pos (show p0 ≤ 255 by rw [fc_le]; omega), fx_in4 (Int32.toInt_toInt64 _) (show (0 : Int64).toInt = 0 by decide) (show (255 : Int64).toInt = 255 by decide), if_pos (show 0 ≤ p0.toInt ∧ p0.toInt ≤ 255 by omega)]
      dsimp only
      rw [if_neg t_10]
      by_cases c3 : L = 120
      · right; left
        subst c3
        rw [if_neg (show ¬ len < 120 by rw [hl]; exact nI_nlt (a := 120) (b := 120) (by omega) (by omega)), if_pos (show ss = 120 by rw [hs]; rfl)]
        exact ⟨rfl, rfl⟩
      · right; right
        have hlt : len < 120 := by rw [hl]; exact nI_lt (a := L) (b := 120) (by omega) (by omega)
        rw [if_pos hlt, if_neg (show ¬ ss = 120 by
          rw [hs]
          exact fun z => c3 ((nI_eq (a := L) (b := 120) (by omega) (by omega)).mp z))]
        unfold mX6_add
        rw [if_neg (show ¬ len < 0 by rw [hl]; exact nI_pos (n := L) (by omega)), if_neg (show ¬ (120 : Int32) ≤ len by rw [hl]; exact nI_ge (a := L) (b := 120) (by omega) (by omega))]
        dsimp only
        have ev : vp_nar .char (p0.toUInt32 % 65536).toInt32 = p0 := by
          rw [pk_vc]
          exact t_char (by omega) c2
        rw [ev, hl, hs, nI_clamp (show L < 2 ^ 31 by omega), nI_1]
        refine ⟨_, _, _, _, rfl, rfl, by omega, rfl, rfl, fun j hj => ?_⟩
        by_cases d : j = L
        · subst d
          rw [pu_eq, pu_eq]
          exact ⟨rfl, by omega, c2⟩
        · rw [pu_ne d, pu_ne d]
          exact hS j (by omega)
    · left
      rw [if_neg (show ¬ p0 ≤ 255 by rw [fc_le]; omega), fx_in4 (Int32.toInt_toInt64 _) (show (0 : Int64).toInt = 0 by decide) (show (255 : Int64).toInt = 255 by decide), if_neg (show ¬ (0 ≤ p0.toInt ∧ p0.toInt ≤ 255) by omega)]
      exact ⟨rfl, rfl⟩
theorem P_clearText (hT : TR L len ss signs scr) : ∃ r, mX7_clearText signs len = (r, 0) ∧ mX8_clearText rf ss sp ig lf ac = (r, 0, 0) ∧ TR 0 0 0 signs scr :=
  ⟨len, rfl, by unfold mX8_clearText; rw [hT.2.1, hT.2.2.1], by omega, rfl, rfl, fun j hj => by omega⟩
end
section
variable {L Bd K W C B : Nat} {len ss : Int32} {signs scr : Nat → Int32} {rf sp ig lf ac : Int32} {set holds : Nat → Int32} {count free dirty : Int32} {kc : Nat → Int32} {kl : Int32} {qc : Nat → Int32} {ql : Int32} {told : Nat → Int32} {rt rc rl rs re rb te ca dr lo la lp : Int32} {row : Nat → Int32} {old hln f0 f1 : Int32}
theorem P_load {rrow isk : Nat → Int32} (hT : TR L len ss signs scr) : (mX7_load signs len set holds count free dirty kc kl qc ql told rt rc rl rs re rb te ca dr lo la lp old hln f0 f1 = Sum.inl (fxE 1) ∧ ∃ sp' ig' lf' row', mX8_load rf ss sp ig lf ac scr rrow row isk = (0, 1, sp', ig', lf', ac, row', row, isk)) ∨
    ∃ (r : Int32) (te' : Int32) (ca' : Int32) (dr' : Int32) (lo' : Int32) (la' : Int32) (lp' : Int32) (set' : Nat → Int32) (count' : Int32) (free' : Int32) (dirty' : Int32) (holds' : Nat → Int32) (kl' : Int32) (kc' : Nat → Int32) (ql' : Int32) (qc' : Nat → Int32) (rt' : Int32) (rc' : Int32) (rl' : Int32) (rs' : Int32) (re' : Int32) (rb' : Int32) (told' : Nat → Int32) (sp' : Int32) (rrow' row' : Nat → Int32), mX7_load signs len set holds count free dirty kc kl qc ql told rt rc rl rs re rb te ca dr lo la lp old hln f0 f1 = Sum.inr (r, te', ca', dr', lo', la', lp', set', count', free', dirty', holds', kl', kc', ql', qc', rt', rc', rl', rs', re', rb', told', 0, 0, 0, 0) ∧ mX8_load rf ss sp ig lf ac scr rrow row isk = (r, 0, sp', 1, r, 0, rrow', row', upd (upd isk 0 (vp_nar .boolean 0)) 1 (vp_nar .boolean 0)) ∧ RS 6200 (te', ca', dr', lo', la', lp', set', count', free', dirty', holds', kl', kc', ql', qc', rt', rc', rl', rs', re', rb', told') row' := by
  have hL := hT.1
  unfold mX7_load mX8_load mX6_firstError
  dsimp only
  rcases t_headR (rf := rf) (sp := sp) (ig := ig) (lf := lf) (ac := ac) (rrow := rrow) hT with ⟨C, p, x, y, e1, e2, e3, e4, e5, e6, ep, e7, e8⟩ | ⟨Q, row', e1, e2, e3⟩
  · rw [e1, e8]
    rcases t_first (rf := rf) (ac := ac) (r3 := nI C) (r4 := nI p) (r5 := x) hT 121 122 0 7 0 (pN (nI C) (nI p) x y rrow) e7 (by omega) (by omega) (by omega) with ⟨sp', ig', lf', row', q1, q2⟩ | ⟨Q, lf', row', q1, q2, q3⟩
    · right
      have q1' : mX6_firstError_L10 signs len 121 (-1) 7 0 = -1 := q1
      rw [q1', if_pos rfl, e2, e3, e4, e5]
      unfold mX5_begin mX2_forget mX7_doCommands
      rw [r_begin0]
      unfold mX3_begin mX3_beginRound
      dsimp only
      have hs : (upd (upd (upd (va_cpy fcS0 set (0 : Int32).toNatClampNeg (0 : Int32).toNatClampNeg (3 : Int32).toNatClampNeg) (0 : Int32).toNatClampNeg (nI p)) (1 : Int32).toNatClampNeg x) (2 : Int32).toNatClampNeg y) 0 = nI p ∧ (upd (upd (upd (va_cpy fcS0 set (0 : Int32).toNatClampNeg (0 : Int32).toNatClampNeg (3 : Int32).toNatClampNeg) (0 : Int32).toNatClampNeg (nI p)) (1 : Int32).toNatClampNeg x) (2 : Int32).toNatClampNeg y) 1 = x ∧ (upd (upd (upd (va_cpy fcS0 set (0 : Int32).toNatClampNeg (0 : Int32).toNatClampNeg (3 : Int32).toNatClampNeg) (0 : Int32).toNatClampNeg (nI p)) (1 : Int32).toNatClampNeg x) (2 : Int32).toNatClampNeg y) 2 = y := by
        simp only [pl_lit0, pl_lit1, pl_lit2]
        refine ⟨?_, ?_, ?_⟩
        · rw [pu_ne (by omega), pu_ne (by omega), pu_eq]
        · rw [pu_ne (by omega), pu_eq]
        · rw [pu_eq]
      generalize (upd (upd (upd (va_cpy fcS0 set (0 : Int32).toNatClampNeg (0 : Int32).toNatClampNeg (3 : Int32).toNatClampNeg) (0 : Int32).toNatClampNeg (nI p)) (1 : Int32).toNatClampNeg x) (2 : Int32).toNatClampNeg y) = st at hs ⊢
      have hR := R_new (C := C) (p := p) (h0 := holds) (kc := kc) (qc := qc) (told := told) (row := rrow) (p2 := nI p) (p3 := x) (p4 := y) (set := st) e6 ep rfl hs
      obtain ⟨r, te2, ca2, dr2, lo2, la2, lp2, free2, dirty2, holds2, kl2, kc2, ql2, qc2, rt2, rc2, rl2, rs2, re2, rb2, told2, K', W', B', sp2, row2, g1, g2, g3⟩ := t_do (rf := rf) (ac := ac) (r3 := nI C) (r4 := nI p) (r5 := x) hT 121 121 122 0 0 7 0 0 0 0 0 _ _ _ _ _ _ _ _ _ _ _ _ _ _ _ _ _ _ _ _ _ hR e7 (by omega) (by omega) (by omega) (by omega) (by omega) (by omega) q1
      have g1' := g1
      rw [show nI 7 = (7 : Int32) from rfl, show nI 0 = (0 : Int32) from rfl] at g1'
      rw [g2, g1']
      unfold mX8_load_C1
      dsimp only
      rw [if_pos rfl]
      refine ⟨r, te2, ca2, dr2, lo2, la2, lp2, st, nI C, free2, dirty2, holds2, kl2, kc2, ql2, qc2, rt2, rc2, rl2, rs2, re2, rb2, told2, sp2, row2, _, rfl, rfl, K', W', C, B', ?_⟩
      exact RR_mono (R_rowcopy g3) (by omega)
    · left
      have q1' : mX6_firstError_L10 signs len 121 (-1) 7 0 = nI Q := q1
      rw [q1', if_neg (t_ne1 q2), q3]
      unfold mX8_load_C1
      dsimp only
      rw [if_neg (t_ne1 q2)]
      exact ⟨rfl, _, _, _, _, rfl⟩
  · left
    have q : mX6_firstError_L10 signs len 121 (nI Q) 7 0 = nI Q := t_bad (k := 120) e2
    rw [e1, q, if_neg (t_ne1 e2), e3]
    unfold mX8_load_C1
    dsimp only
    rw [if_neg (t_ne1 e2)]
    exact ⟨rfl, _, _, _, _, rfl⟩
end
