/-! PURE: the end of a tick -/
noncomputable def pwhy (r : Nat → Int32) : Int32 := if r 1 ≤ r 13 then if r 14 ≤ 0 then if r 17 ≤ 0 then 4 else 3 else 2 else 1
noncomputable def pinc (r : Nat → Int32) : Int32 := if 10 ≤ r 18 then r 18 else r 18 + 1
noncomputable def pB (r : Nat → Int32) : Nat → Int32 := upd (upd (upd (upd (upd (upd (upd (upd (upd (upd r 327 (r 9)) 328 (pwhy r)) 329 (r 12)) 18 (pinc r)) 10 (r 10 + 1)) 9 (r 9 + 1)) 11 0) 12 0) 13 0) 14 0
def pC (r : Nat → Int32) : Nat → Int32 := upd (upd (upd (upd (upd r 9 (r 9 + 1)) 11 0) 12 0) 13 0) 14 0
theorem p_add0 (x : Int32) : x + 0 = x := Int32.add_zero x
theorem pB_S {ih : Int32 → (Nat → Int32) → Nat → Int32} {r : Nat → Int32} : mX8_endRound_S13 ih (nI 2) r = pB r := by
  unfold mX8_endRound_S13 pB
  rw [if_pos (show nI 2 ≤ 2 by decide)]
  simp only [pl_lit1, pl_lit9, pl_lit10, pl_lit11, pl_lit12, pl_lit13, pl_lit14, pl_lit17, pl_lit18, pl_lit327, pl_lit328, pl_lit329]
  simp (disch := omega) only [pu_ne, pu_eq', p_add0]
  unfold pwhy pinc
  by_cases c1 : r 1 ≤ r 13
  · rw [if_pos c1, if_pos c1]
    by_cases c2 : r 14 ≤ 0
    · rw [if_pos c2, if_pos c2]
      by_cases c3 : r 17 ≤ 0
      · rw [if_pos c3, if_pos c3]
        by_cases c4 : 10 ≤ r 18
        · rw [if_pos c4, if_pos c4]
        · rw [if_neg c4, if_neg c4]
      · rw [if_neg c3, if_neg c3]
        by_cases c4 : 10 ≤ r 18
        · rw [if_pos c4, if_pos c4]
        · rw [if_neg c4, if_neg c4]
    · rw [if_neg c2, if_neg c2]
      by_cases c4 : 10 ≤ r 18
      · rw [if_pos c4, if_pos c4]
      · rw [if_neg c4, if_neg c4]
  · rw [if_neg c1, if_neg c1]
    by_cases c4 : 10 ≤ r 18
    · rw [if_pos c4, if_pos c4]
    · rw [if_neg c4, if_neg c4]
def psh (r : Nat → Int32) (x : Nat) : Nat → Int32 := fun j => if 327 + x < j ∧ j < 357 then r (j - 3) else r j
theorem pB_L {r : Nat → Int32} : ∀ (k x : Nat), 2 ≤ x → x ≤ 29 → x < k + 2 → mX8_endRound_L13 k (nI x) (psh r x) = pB (psh r 2) := by
  intro k
  induction k with
  | zero => intro x h1 h2 h3; omega
  | succ k ih =>
    intro x h1 h2 h3
    rw [mX8_endRound_L13_s]
    by_cases e : x = 2
    · subst e
      exact pB_S
    · unfold mX8_endRound_S13
      rw [if_neg (show ¬ nI x ≤ 2 from nI_ge (show 2 < x by omega) (by omega))]
      have e1 : (327 : Int32) + nI x = nI (327 + x) := nI_add 327 x
      have e2 : nI (327 + x) - 3 = nI (324 + x) := by
        show _ - nI 3 = _
        rw [pk_sub (by omega)]; congr 1; omega
      have e3 : nI x + (-1) = nI (x - 1) := by
        obtain ⟨z, rfl⟩ : ∃ z, x = z + 1 := ⟨x - 1, by omega⟩
        exact pk_m1 z
      rw [e1, e2, nI_clamp (by omega), nI_clamp (by omega), e3]
      have e4 : upd (psh r x) (327 + x) (psh r x (324 + x)) = psh r (x - 1) := by
        funext j
        by_cases q : j = 327 + x
        · subst q
          rw [pu_eq]
          simp only [psh]
          rw [if_neg (by omega), if_pos (by omega)]
          congr 1; omega
        · rw [pu_ne q]
          simp only [psh]
          by_cases z : 327 + x < j ∧ j < 357
          · rw [if_pos z, if_pos (by omega)]
          · rw [if_neg z, if_neg (by omega)]
      rw [e4]
      exact ih (x - 1) (by omega) (by omega) (by omega)
theorem psh_29 (r : Nat → Int32) : psh r 29 = r := by
  funext j
  simp only [psh]
  rw [if_neg (by omega)]
theorem r_endRound {row : Nat → Int32} : mX8_endRound row = if row 1 ≤ row 12 then pC row else pB (psh row 2) := by
  unfold mX8_endRound
  simp only [pl_lit1, pl_lit9, pl_lit10, pl_lit11, pl_lit12, pl_lit13, pl_lit14]
  by_cases c : row 1 ≤ row 12
  · rw [if_pos c, if_pos c]; rfl
  · rw [if_neg c, if_neg c]
    have := pB_L (r := row) 30 29 (by omega) (by omega) (by omega)
    rw [psh_29] at this
    exact this
/-- the reference's end of a tick -/
noncomputable def pE (row : Nat → Int32) : Nat → Int32 := if row 2 ≤ row 11 + 1 then mX8_endRound (upd (upd row 4 (row 4 + 1)) 11 (row 11 + 1)) else upd (upd row 4 (row 4 + 1)) 11 (row 11 + 1)
theorem r_tell {told : Nat → Int32} {rt rc rl rs re p0 : Int32} {B : Nat} (hB : B < 2000000000) : mX3_tell told rt rc rl rs re (nI B) p0 = (nI (B + 1), upd (upd (upd told (B % 10 * 3) re) (B % 10 * 3 + 1) p0) (B % 10 * 3 + 2) rs) := by
  unfold mX3_tell
  have e1 : nI B - nI B / 10 * 10 = nI (B % 10) := pk_rem (a := B) (d := 10) (by omega) (by decide) (by decide)
  have e2 : nI (B % 10) * 3 = nI (B % 10 * 3) := pk_mul _ 3
  have e3 : nI (B % 10 * 3) + 2 = nI (B % 10 * 3 + 2) := nI_add _ 2
  have e4 : nI (B % 10 * 3) + 1 = nI (B % 10 * 3 + 1) := nI_1 _
  rw [e1, e2, e3, e4, if_neg (nI_pos (by omega)), if_neg (show ¬ (30 : Int32) ≤ nI (B % 10 * 3 + 2) from nI_ge (show B % 10 * 3 + 2 < 30 by omega) (by decide)), nI_clamp (by omega), nI_clamp (by omega), nI_clamp (by omega), nI_1]
theorem r_end {told : Nat → Int32} {rt rc rl rs re rb p0 p1 : Int32} : mX3_end told rt rc rl rs re rb p0 p1 = if p0 ≤ rs then (0, 0, 0, 0, re + 1, rb, told) else (0, 0, 0, 0, re + 1, (mX3_tell told rt rc rl rs re rb (mX3_reason told rt rc rl rs re rb p0 p1)).1, (mX3_tell told rt rc rl rs re rb (mX3_reason told rt rc rl rs re rb p0 p1)).2) := by
  unfold mX3_end
  by_cases c : p0 ≤ rs
  · rw [if_pos c, if_pos c]; rfl
  · rw [if_neg c, if_neg c]; rfl
theorem r_endTick {set holds kc qc told : Nat → Int32} {count free dirty kl ql rt rc rl rs re rb te ca dr lo la lp : Int32} : mX5_endTick set holds count free dirty kc kl qc ql told rt rc rl rs re rb te ca dr lo la lp = if rt + 1 < set 2 then (te + 1, rt + 1, rc, rl, rs, re, rb, told) else (te + 1, mX3_end told (rt + 1) rc rl rs re rb (set 1) (if ql ≤ 0 then 0 else 1)) := by
  unfold mX5_endTick
  simp only [pl_lit1, pl_lit2]
  by_cases c : rt + 1 < set 2
  · rw [if_pos c, if_pos c]
  · rw [if_neg c, if_neg c]
    by_cases d : ql ≤ 0
    · rw [if_pos d, if_pos d]
    · rw [if_neg d, if_neg d]
section
variable {Bd K W C B : Nat} {set holds : Nat → Int32} {count free dirty : Int32} {kc : Nat → Int32} {kl : Int32} {qc : Nat → Int32} {ql : Int32} {told : Nat → Int32} {rt rc rl rs re rb te ca dr lo la lp : Int32} {row : Nat → Int32}
theorem R_end_mk {B' : Nat} {rt' rc' rl' rs' re' rb' : Int32} {told' row' : Nat → Int32} (hR : RR Bd K W C B set holds count free dirty kc kl qc ql told rt rc rl rs re rb te ca dr lo la lp row) (hB : Bd < 1000000000) (rd : ∀ j, j < 4 ∨ (4 < j ∧ j < 9) ∨ (14 < j ∧ j < 18) ∨ (18 < j ∧ j < 327) → row' j = row j)
    (q4 : row' 4 = te + 1) (q9 : row' 9 = re') (q10 : row' 10 = rb') (q11 : row' 11 = rt') (q12 : row' 12 = rs') (q13 : row' 13 = rc') (q14 : row' 14 = rl') (q18 : row' 18 = nI (min B' 10)) (hb : rb' = nI B') (hT : RTo B' told' row') (hBB : B' ≤ Bd + 1) :
    RR (Bd + 1) K W C B' set holds count free dirty kc kl qc ql told' rt' rc' rl' rs' re' rb' (te + 1) ca dr lo la lp row' := by
  obtain ⟨⟨⟨⟨⟨s0, s1, s2⟩, s4, s5, s6, s7, s8⟩, s9, s10, s11, s12, s13, s14, s15⟩, ⟨⟨⟨n1, n2⟩, ⟨n3, n4⟩, ⟨n5, n6⟩, n7, n8⟩, w4, c8, c48⟩, hBl⟩, ⟨hKe, hQu, hNu⟩, hTo, b1, b2, b3, b4, b5⟩ := hR
  have hK := RK48 hKe hNu
  have i1 := pp_inc b1 (by omega)
  refine ⟨⟨⟨⟨⟨?_, ?_, ?_⟩, q4.symm, ?_, ?_, ?_, ?_⟩, q9.symm, q10.symm, q11.symm, q12.symm, q13.symm, q14.symm, ?_⟩, ⟨⟨⟨n1, ?_⟩, ⟨n3, ?_⟩, ⟨n5, ?_⟩, hb, q18⟩, w4, c8, c48⟩, hBl.cong (fun b hb => rd _ (by omega))⟩, ⟨hKe.cong (fun j h1 h2 => rd _ (by omega)), hQu.cong (fun j h1 h2 => rd _ (by omega)) (by omega), hNu.cong (fun j h1 h2 => rd _ (by omega)) (fun j h1 h2 => rd _ (by omega)) (Int.le_refl _)⟩, hT, ⟨by omega, by omega⟩, ⟨by omega, by omega⟩, hBB, b4, b5⟩
  all_goals (rw [rd _ (by omega)]; assumption)
theorem R_endTick (hR : RR Bd K W C B set holds count free dirty kc kl qc ql told rt rc rl rs re rb te ca dr lo la lp row) (hB : Bd < 1000000000) :
    ∃ rt' rc' rl' rs' re' rb' told' B', mX5_endTick set holds count free dirty kc kl qc ql told rt rc rl rs re rb te ca dr lo la lp = (te + 1, rt', rc', rl', rs', re', rb', told') ∧ RR (Bd + 1) K W C B' set holds count free dirty kc kl qc ql told' rt' rc' rl' rs' re' rb' (te + 1) ca dr lo la lp (pE row) := by
  have hR0 := hR
  obtain ⟨⟨⟨⟨⟨s0, s1, s2⟩, s4, s5, s6, s7, s8⟩, s9, s10, s11, s12, s13, s14, s15⟩, ⟨⟨⟨n1, n2⟩, ⟨n3, n4⟩, ⟨n5, n6⟩, n7, n8⟩, w4, c8, c48⟩, hBl⟩, ⟨hKe, hQu, hNu⟩, hTo, b1, b2, b3, b4, b5⟩ := hR
  rw [r_endTick, s11, s2]
  unfold pE
  generalize hr1 : upd (upd row 4 (row 4 + 1)) 11 (row 11 + 1) = r1
  have rd1 : ∀ j, j ≠ 4 ∧ j ≠ 11 → r1 j = row j := by
    intro j hj
    rw [← hr1]
    simp (disch := omega) only [pu_ne]
  have t4 : r1 4 = row 4 + 1 := by rw [← hr1]; simp (disch := omega) only [pu_ne, pu_eq']
  have t11 : r1 11 = row 11 + 1 := by rw [← hr1]; simp (disch := omega) only [pu_ne, pu_eq']
  by_cases c1 : row 11 + 1 < row 2
  · rw [if_pos c1, if_neg (show ¬ row 2 ≤ row 11 + 1 by rw [fc_le]; rw [fc_lt] at c1; omega)]
    refine ⟨_, _, _, _, _, _, _, B, rfl, R_end_mk hR0 hB (fun j hj => rd1 j (by omega)) (by rw [t4, s4]) (by rw [rd1 _ (by omega)]; exact s9.symm) (by rw [rd1 _ (by omega)]; exact s10.symm) t11 (by rw [rd1 _ (by omega)]; exact s12.symm) (by rw [rd1 _ (by omega)]; exact s13.symm) (by rw [rd1 _ (by omega)]; exact s14.symm) (by rw [rd1 _ (by omega)]; exact n8) n7 (hTo.cong (fun j h1 h2 => rd1 _ (by omega))) (by omega)⟩
  · rw [if_neg c1, if_pos (show row 2 ≤ row 11 + 1 by rw [fc_le]; rw [fc_lt] at c1; omega), r_endRound, r_end, rd1 1 (by omega), rd1 12 (by omega), s1, ← s12]
    by_cases c2 : row 1 ≤ rs
    · rw [if_pos c2, if_pos c2]
      generalize hr2 : pC r1 = r2
      have rd2 : ∀ j, j < 9 ∨ j = 10 ∨ 14 < j → r2 j = r1 j := by
        intro j hj
        rw [← hr2]
        unfold pC
        simp (disch := omega) only [pu_ne]
      have rd : ∀ j, j < 4 ∨ (4 < j ∧ j < 9) ∨ j = 10 ∨ 14 < j → r2 j = row j := fun j hj => by rw [rd2 j (by omega), rd1 j (by omega)]
      refine ⟨_, _, _, _, _, _, _, B, rfl, R_end_mk hR0 hB (fun j hj => rd j (by omega)) (by rw [rd2 _ (by omega), t4, s4]) ?_ (by rw [rd _ (by omega)]; exact s10.symm) ?_ ?_ ?_ ?_ (by rw [rd _ (by omega)]; exact n8) n7 (hTo.cong (fun j h1 h2 => rd _ (by omega))) (by omega)⟩
      all_goals (rw [← hr2]; unfold pC; simp (disch := omega) only [pu_ne, pu_eq'])
      rw [rd1 _ (by omega), s9]
    · rw [if_neg c2, if_neg c2, n7, r_tell (by omega)]
      generalize hr2 : pB (psh r1 2) = r2
      have rs1 : ∀ j, j < 330 → psh r1 2 j = r1 j := fun j hj => by simp only [psh]; rw [if_neg (by omega)]
      have rd2 : ∀ j, j < 9 ∨ (14 < j ∧ j < 18) ∨ (18 < j ∧ j < 327) → r2 j = r1 j := by
        intro j hj
        rw [← hr2]
        unfold pB
        simp (disch := omega) only [pu_ne]
        exact rs1 j (by omega)
      have rd : ∀ j, j < 4 ∨ (4 < j ∧ j < 9) ∨ (14 < j ∧ j < 18) ∨ (18 < j ∧ j < 327) → r2 j = row j := fun j hj => by rw [rd2 j (by omega), rd1 j (by omega)]
      have ewhy : mX3_reason told (row 11 + 1) rc rl rs re (nI B) (row 1) (if ql ≤ 0 then 0 else 1) = pwhy (psh r1 2) := by
        unfold mX3_reason pwhy
        rw [rs1 1 (by omega), rs1 13 (by omega), rs1 14 (by omega), rs1 17 (by omega), rd1 1 (by omega), rd1 13 (by omega), rd1 14 (by omega), rd1 17 (by omega), ← s13, ← s14, n4, n3]
        by_cases d1 : row 1 ≤ rc
        · rw [if_pos d1, if_pos d1]
          by_cases d2 : rl ≤ 0
          · rw [if_pos d2, if_pos d2]
            by_cases d3 : nI W ≤ 0
            · rw [if_pos d3, if_pos d3]; rfl
            · rw [if_neg d3, if_neg d3]; rfl
          · rw [if_neg d2, if_neg d2]
        · rw [if_neg d1, if_neg d1]
      rw [ewhy]
      generalize hwy : pwhy (psh r1 2) = why
      refine ⟨_, _, _, _, _, _, _, B + 1, rfl, R_end_mk hR0 hB (fun j hj => rd j (by omega)) (by rw [rd2 _ (by omega), t4, s4]) ?_ ?_ ?_ ?_ ?_ ?_ ?_ rfl ?_ (by omega)⟩
      case refine_8 =>
        intro k hk j hj
        have hr3 : ∀ j, 327 ≤ j → j < 357 → r2 j = if j = 327 then row 9 else if j = 328 then why else if j = 329 then row 12 else row (j - 3) := by
          intro j h1 h2
          rw [← hr2]
          unfold pB
          by_cases e1 : j = 327
          · rw [if_pos e1]
            simp (disch := omega) only [pu_ne, pu_eq']
            rw [rs1 9 (by omega), rd1 9 (by omega)]
          · rw [if_neg e1]
            by_cases e2 : j = 328
            · rw [if_pos e2]
              simp (disch := omega) only [pu_ne, pu_eq']
              exact hwy
            · rw [if_neg e2]
              by_cases e3 : j = 329
              · rw [if_pos e3]
                simp (disch := omega) only [pu_ne, pu_eq']
                rw [rs1 12 (by omega), rd1 12 (by omega)]
              · rw [if_neg e3]
                simp (disch := omega) only [pu_ne]
                simp only [psh]
                rw [if_pos (by omega), rd1 _ (by omega)]
        rw [hr3 _ (by omega) (by omega)]
        match k, hk with
        | 0, hk =>
          have e : (B + 1 - 1 - 0) % 10 * 3 = B % 10 * 3 := by congr 2
          rw [e]
          match j, hj with
          | 0, _ => rw [if_pos (by omega)]; simp (disch := omega) only [pu_ne, pu_eq']; exact s9
          | 1, _ => rw [if_neg (by omega), if_pos (by omega)]; simp (disch := omega) only [pu_ne, pu_eq']
          | 2, _ => rw [if_neg (by omega), if_neg (by omega), if_pos (by omega)]; simp (disch := omega) only [pu_ne, pu_eq']; exact s12
        | k + 1, hk =>
          have e : B + 1 - 1 - (k + 1) = B - 1 - k := by omega
          rw [e, if_neg (by omega), if_neg (by omega), if_neg (by omega)]
          have e9 : (B - 1 - k) % 10 ≠ B % 10 := by omega
          dsimp only
          rw [pu_ne (by omega), pu_ne (by omega), pu_ne (by omega), hTo k (by omega) j hj]
          congr 1
          omega
      case refine_7 =>
        rw [← hr2]
        unfold pB
        simp (disch := omega) only [pu_ne, pu_eq']
        unfold pinc
        rw [rs1 18 (by omega), rd1 18 (by omega), n8]
        rcases Nat.lt_or_ge B 10 with z | z
        · rw [if_neg (show ¬ (10 : Int32) ≤ nI (min B 10) from nI_ge (show min B 10 < 10 by omega) (by decide)), nI_1]
          congr 1; omega
        · rw [if_pos (show (10 : Int32) ≤ nI (min B 10) from nI_le (show 10 ≤ min B 10 by omega) (by omega))]
          congr 1; omega
      all_goals (rw [← hr2]; unfold pB; simp (disch := omega) only [pu_ne, pu_eq'])
      all_goals first
        | rfl
        | (rw [rs1 9 (by omega), rd1 9 (by omega), s9])
        | (rw [rs1 10 (by omega), rd1 10 (by omega), ← s10, n7, nI_1])
end
