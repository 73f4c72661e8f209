/-! PURE: a new card -/
theorem r_begin0_L {count free dirty p0 : Int32} {h0 : Nat → Int32} : ∀ (k b : Nat) (h : Nat → Int32), b ≤ 48 → 48 < b + k → (∀ j, h j = if j < b then -1 else h0 j) →
    mX0_begin_L2 count free dirty p0 k (nI b) h = (p0, p0, 0, fun j => if j < 48 then -1 else h0 j) := by
  intro k
  induction k with
  | zero => intro b h h1 h2; omega
  | succ k ih =>
    intro b h h1 h2 hf
    rw [mX0_begin_L2_s, mX0_begin_S2]
    by_cases e : b = 48
    · subst e
      rw [if_pos (show (48 : Int32) ≤ nI 48 from nI_le (a := 48) (Nat.le_refl _) (by decide))]
      congr 3
      funext j
      exact hf j
    · rw [if_neg (show ¬ (48 : Int32) ≤ nI b from nI_ge (show b < 48 by omega) (by decide)), nI_clamp (by omega), nI_1]
      refine ih (b + 1) _ (by omega) (by omega) (fun j => ?_)
      by_cases q : j = b
      · subst q; rw [pu_eq, if_pos (by omega)]
      · rw [pu_ne q, hf]
        by_cases q2 : j < b
        · rw [if_pos q2, if_pos (by omega)]
        · rw [if_neg q2, if_neg (by omega)]
theorem r_begin0 {count free dirty p0 : Int32} {h0 : Nat → Int32} : mX0_begin h0 count free dirty p0 = (p0, p0, 0, fun j => if j < 48 then -1 else h0 j) := by
  unfold mX0_begin
  exact r_begin0_L 49 0 h0 (by omega) (by omega) (fun j => by rw [if_neg (by omega)])
/-- the reference's clean row -/
def pN (p1 p2 p3 p4 : Int32) (row : Nat → Int32) : Nat → Int32 := fun j =>
  if j = 0 then p2 else if j = 1 then p3 else if j = 2 then p4 else if j = 3 then p1 else if j = 15 then -1 else if 19 ≤ j ∧ j < 67 then -1 else if j < 357 then 0 else row j
theorem r_clean47 {p1 p2 p3 p4 : Int32} {row0 : Nat → Int32} : ∀ (k b : Nat) (row : Nat → Int32), b ≤ 48 → 48 < b + k → (∀ j, row j = if 19 ≤ j ∧ j < 19 + b then -1 else row0 j) →
    mX8_clean_L47 p1 p2 p3 p4 k (nI b) row = fun j => if 19 ≤ j ∧ j < 67 then -1 else row0 j := by
  intro k
  induction k with
  | zero => intro b row h1 h2; omega
  | succ k ih =>
    intro b row h1 h2 hf
    rw [mX8_clean_L47_s, mX8_clean_S47]
    by_cases e : b = 48
    · subst e
      rw [if_pos (show (48 : Int32) ≤ nI 48 from nI_le (a := 48) (Nat.le_refl _) (by decide))]
      funext j
      exact hf j
    · rw [if_neg (show ¬ (48 : Int32) ≤ nI b from nI_ge (show b < 48 by omega) (by decide)), p19, nI_clamp (by omega), nI_1]
      refine ih (b + 1) _ (by omega) (by omega) (fun j => ?_)
      by_cases q : j = 19 + b
      · subst q; rw [pu_eq, if_pos (by omega)]
      · rw [pu_ne q, hf]
        by_cases q2 : 19 ≤ j ∧ j < 19 + b
        · rw [if_pos q2, if_pos (by omega)]
        · rw [if_neg q2, if_neg (by omega)]
theorem r_clean3 {p1 p2 p3 p4 : Int32} {row0 : Nat → Int32} : ∀ (k b : Nat) (row : Nat → Int32), b ≤ 357 → 357 < b + k → (∀ j, row j = if j < b then 0 else row0 j) →
    mX8_clean_L3 p1 p2 p3 p4 k (nI b) row = pN p1 p2 p3 p4 row0 := by
  intro k
  induction k with
  | zero => intro b row h1 h2; omega
  | succ k ih =>
    intro b row h1 h2 hf
    rw [mX8_clean_L3_s, mX8_clean_S3]
    by_cases e : b = 357
    · subst e
      rw [if_pos (show (357 : Int32) ≤ nI 357 from nI_le (a := 357) (Nat.le_refl _) (by decide))]
      simp only [pl_lit0, pl_lit1, pl_lit2, pl_3, pl_lit15]
      have h47 := r_clean47 (p1 := p1) (p2 := p2) (p3 := p3) (p4 := p4) (row0 := upd (upd (upd (upd (upd row 0 p2) 1 p3) 2 p4) 3 p1) 15 (-1)) 49 0 (upd (upd (upd (upd (upd row 0 p2) 1 p3) 2 p4) 3 p1) 15 (-1)) (by omega) (by omega) (fun j => by rw [if_neg (by omega)])
      refine h47.trans ?_
      funext j
      unfold pN
      by_cases q : 19 ≤ j ∧ j < 67
      · rw [if_pos q, if_neg (by omega), if_neg (by omega), if_neg (by omega), if_neg (by omega), if_neg (by omega), if_pos q]
      · rw [if_neg q]
        by_cases q0 : j = 0
        · rw [if_pos q0]; subst q0; simp (disch := omega) only [pu_ne, pu_eq']
        · rw [if_neg q0]
          by_cases q1 : j = 1
          · rw [if_pos q1]; subst q1; simp (disch := omega) only [pu_ne, pu_eq']
          · rw [if_neg q1]
            by_cases q2 : j = 2
            · rw [if_pos q2]; subst q2; simp (disch := omega) only [pu_ne, pu_eq']
            · rw [if_neg q2]
              by_cases q3 : j = 3
              · rw [if_pos q3]; subst q3; simp (disch := omega) only [pu_ne, pu_eq']
              · rw [if_neg q3]
                by_cases q15 : j = 15
                · rw [if_pos q15]; subst q15; simp (disch := omega) only [pu_ne, pu_eq']
                · rw [if_neg q15, if_neg q]
                  simp (disch := omega) only [pu_ne]
                  exact hf j
    · rw [if_neg (show ¬ (357 : Int32) ≤ nI b from nI_ge (show b < 357 by omega) (by decide)), nI_clamp (by omega), nI_1]
      refine ih (b + 1) _ (by omega) (by omega) (fun j => ?_)
      by_cases q : j = b
      · subst q; rw [pu_eq, if_pos (by omega)]
      · rw [pu_ne q, hf]
        by_cases q2 : j < b
        · rw [if_pos q2, if_pos (by omega)]
        · rw [if_neg q2, if_neg (by omega)]
theorem r_clean {p1 p2 p3 p4 : Int32} {row : Nat → Int32} : mX8_clean row p1 p2 p3 p4 = pN p1 p2 p3 p4 row := by
  unfold mX8_clean
  exact r_clean3 358 0 row (by omega) (by omega) (fun j => by rw [if_neg (by omega)])
