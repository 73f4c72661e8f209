/-! PURE: the text, on both sides -/
def TR (L : Nat) (len ss : Int32) (signs scr : Nat → Int32) : Prop := L ≤ 120 ∧ len = nI L ∧ ss = nI L ∧ ∀ j, j < L → signs j = scr j ∧ 0 ≤ (scr j).toInt ∧ (scr j).toInt ≤ 255
abbrev tG (L : Nat) (scr : Nat → Int32) (j : Nat) : Prop := j < L ∧ 0 ≤ (scr j).toInt - 48 ∧ (scr j).toInt - 48 ≤ 9
abbrev tD (L : Nat) (scr : Nat → Int32) (j : Nat) (lo hi : Int) : Prop := tG L scr j ∧ lo ≤ (scr j).toInt - 48 ∧ (scr j).toInt - 48 ≤ hi
section
variable {L : Nat} {len ss : Int32} {signs scr : Nat → Int32} {rf sp ig lf ac : Int32}
theorem t_10 : ¬ (1 : Int32) = 0 := by decide
theorem t_val {j : Nat} (hT : TR L len ss signs scr) (h : j < L) : (scr j - 48).toInt = (scr j).toInt - 48 := by
  have := (hT.2.2.2 j h).2
  exact fc_subk (by decide) (by omega) (by omega)
theorem t_sign {P : Nat} (hT : TR L len ss signs scr) (hP : P < 1000) : mX6_signAt signs len (nI P) = if P < L then scr P else -1 := by
  obtain ⟨hL, rfl, rfl, hS⟩ := hT
  unfold mX6_signAt
  rw [if_neg (nI_pos (n := P) (by omega))]
  by_cases c : P < L
  · rw [if_pos c, if_neg (nI_ge (a := P) (b := L) c (by omega)), if_neg (show ¬ (120 : Int32) ≤ nI P from nI_ge (a := P) (b := 120) (by omega) (by omega)), nI_clamp (by omega)]
    exact (hS P c).1
  · rw [if_neg c, if_pos (nI_le (a := L) (b := P) (by omega) (by omega))]
theorem t_digitAt {P : Nat} (hT : TR L len ss signs scr) (hP : P < 1000) : mX6_digitAt signs len (nI P) = if tG L scr P then scr P - 48 else -1 := by
  have l48 : (48 : Int32).toInt = 48 := by decide
  have l57 : (57 : Int32).toInt = 57 := by decide
  unfold mX6_digitAt
  rw [t_sign hT hP]
  dsimp only
  by_cases c : P < L
  · rw [if_pos c]
    by_cases c1 : (scr P).toInt < 48
    · rw [if_pos (show scr P < 48 by rw [fc_lt]; omega), if_neg (show ¬ tG L scr P from fun z => by have := z.2.1; omega)]
    · rw [if_neg (show ¬ scr P < 48 by rw [fc_lt]; omega)]
      by_cases c2 : 57 < (scr P).toInt
      · rw [if_pos (show 57 < scr P by rw [fc_lt]; omega), if_neg (show ¬ tG L scr P from fun z => by have := z.2.2; omega)]
      · rw [if_neg (show ¬ 57 < scr P by rw [fc_lt]; omega), if_pos (show tG L scr P from ⟨c, by omega, by omega⟩)]
  · rw [if_neg c, if_pos (show (-1 : Int32) < 48 by decide), if_neg (show ¬ tG L scr P from fun z => c z.1)]
theorem t_d {P : Nat} {lo hi : Int32} {LO HI : Int} (hT : TR L len ss signs scr) (hP : P < 1000) (hlo : lo.toInt = LO) (hhi : hi.toInt = HI) : mX8_digit rf ss (nI P) 1 lf ac scr lo hi = if tD L scr P LO HI then (scr P - 48, nI (P + 1), 1) else (lo, nI P, 0) := by
  rw [fr_digit_eq, nI_clamp (show P < 2 ^ 31 by omega), nI_1, hlo, hhi]
  have hS := hT.2.2.1
  have hL := hT.1
  by_cases c : tD L scr P LO HI
  · rw [if_pos c]
    have v := t_val hT c.1.1
    refine if_pos ⟨t_10, ?_, ?_, ?_⟩
    · rw [hS]; exact nI_ge (a := P) (b := L) c.1.1 (by omega)
    · rw [v]; exact c.1.2
    · rw [v]; exact c.2
  · rw [if_neg c]
    refine if_neg (fun z => c ?_)
    have q : P < L := by
      have := z.2.1
      rw [hS, nI_leI (by omega) (by omega)] at this
      omega
    have v := t_val hT q
    rw [v] at z
    exact ⟨⟨q, z.2.2.1⟩, z.2.2.2⟩
theorem t_d0 {lo hi : Int32} : mX8_digit rf ss sp 0 lf ac scr lo hi = (lo, sp, 0) := by
  rw [fr_digit_eq]
  exact if_neg (fun z => z.1 rfl)
theorem t_two0 {lo hi : Int32} : ∃ v, mX8_two rf ss sp 0 lf ac scr lo hi = (v, sp, 0) := ⟨_, fr_two_eq t_d0 t_d0⟩
theorem t_step {P Q i k : Nat} {p1 lo hi x5 x6 : Int32} {S X LO HI : Int} (hT : TR L len ss signs scr) (hQ : Q = P + i) (hP : Q < 1000) (hp : ¬ p1 ≤ nI i) (hs : (x5 / 10).toInt = S) (hS : 1 ≤ S ∧ S ≤ 100000) (hx : x6.toInt = X) (hX : 0 ≤ X ∧ X ≤ 1000000) (hlo : lo.toInt = LO) (hhi : hi.toInt = HI) :
    mX6_errorInNumber_L31 signs len (nI P) p1 lo hi (k + 1) x5 x6 (nI i) = if tG L scr Q ∧ X + ((scr Q).toInt - 48) * S ≤ HI ∧ LO ≤ X + ((scr Q).toInt - 48) * S + S - 1 then mX6_errorInNumber_L31 signs len (nI P) p1 lo hi k (x5 / 10) (x6 + (scr Q - 48) * (x5 / 10)) (nI (i + 1)) else nI Q := by
  have l1 := pz_1
  rw [mX6_errorInNumber_L31_s, mX6_errorInNumber_S31, if_neg hp, nI_add, ← hQ, t_digitAt hT hP, nI_1]
  dsimp only
  by_cases g : tG L scr Q
  · rw [if_pos g]
    have v := t_val hT g.1
    obtain ⟨g0, g1, g2⟩ := g
    have m1 : 0 ≤ ((scr Q).toInt - 48) * S := Int.mul_nonneg g1 (by omega)
    have m2 : ((scr Q).toInt - 48) * S ≤ 9 * 100000 := Int.mul_le_mul g2 hS.2 (by omega) (by omega)
    have m : ((scr Q - 48) * (x5 / 10)).toInt = ((scr Q).toInt - 48) * S := by
      rw [fc_mul (by rw [v, hs]; omega) (by rw [v, hs]; omega), v, hs]
    have a : (x6 + (scr Q - 48) * (x5 / 10)).toInt = X + ((scr Q).toInt - 48) * S := by
      rw [fc_add (by rw [m, hx]; omega) (by rw [m, hx]; omega), m, hx]
    have b1 : (x6 + (scr Q - 48) * (x5 / 10) + x5 / 10).toInt = X + ((scr Q).toInt - 48) * S + S := by
      rw [fc_add (by rw [a, hs]; omega) (by rw [a, hs]; omega), a, hs]
    have b : (x6 + (scr Q - 48) * (x5 / 10) + x5 / 10 - 1).toInt = X + ((scr Q).toInt - 48) * S + S - 1 := by
      rw [fc_subk (k := 1) (n := 1) (by decide) (by rw [b1]; omega) (by rw [b1]; omega), b1]
    rw [if_neg (show ¬ scr Q - 48 = -1 by rw [fc_eq]; omega)]
    by_cases c1 : X + ((scr Q).toInt - 48) * S ≤ HI
    · rw [if_neg (show ¬ hi < x6 + (scr Q - 48) * (x5 / 10) by rw [fc_lt]; omega)]
      by_cases c2 : LO ≤ X + ((scr Q).toInt - 48) * S + S - 1
      · rw [if_pos (show lo ≤ x6 + (scr Q - 48) * (x5 / 10) + x5 / 10 - 1 by rw [fc_le]; omega)]
        exact (if_pos ⟨⟨g0, by omega, by omega⟩, c1, c2⟩).symm
      · rw [if_neg (show ¬ lo ≤ x6 + (scr Q - 48) * (x5 / 10) + x5 / 10 - 1 by rw [fc_le]; omega)]
        exact (if_neg (fun z => c2 z.2.2)).symm
    · rw [if_pos (show hi < x6 + (scr Q - 48) * (x5 / 10) by rw [fc_lt]; omega)]
      exact (if_neg (fun z => c1 z.2.1)).symm
  · rw [if_neg g, if_pos rfl]
    exact (if_neg (fun z => g z.1)).symm
theorem t_stop31 {k : Nat} {p0 p1 lo hi x5 x6 x7 : Int32} (h : p1 ≤ x7) : mX6_errorInNumber_L31 signs len p0 p1 lo hi (k + 1) x5 x6 x7 = -1 := by
  rw [mX6_errorInNumber_L31_s, mX6_errorInNumber_S31, if_pos h]
theorem t_go6 {k : Nat} {p0 p1 lo hi x5 x6 : Int32} (h : ¬ p1 ≤ x6) : mX6_errorInNumber_L6 signs len p0 p1 lo hi (k + 1) x5 x6 = mX6_errorInNumber_L6 signs len p0 p1 lo hi k (x5 * 10) (x6 + 1) := by
  rw [mX6_errorInNumber_L6_s, mX6_errorInNumber_S6, if_neg h]
theorem t_stop6 {k : Nat} {p0 p1 lo hi x5 x6 : Int32} (h : p1 ≤ x6) : mX6_errorInNumber_L6 signs len p0 p1 lo hi (k + 1) x5 x6 = mX6_errorInNumber_L31 signs len p0 p1 lo hi 11 x5 0 0 := by
  rw [mX6_errorInNumber_L6_s, mX6_errorInNumber_S6, if_pos h]
theorem t_nstep {P Q i k : Nat} {p1 x3 : Int32} (hT : TR L len ss signs scr) (hQ : Q = P + i) (hP : Q < 1000) (hp : ¬ p1 ≤ nI i) (g : tG L scr Q) :
    mX6_number_L5 signs len (nI P) p1 (k + 1) x3 (nI i) = mX6_number_L5 signs len (nI P) p1 k (10 * x3 + (scr Q - 48)) (nI (i + 1)) := by
  rw [mX6_number_L5_s, mX6_number_S5, if_neg hp, nI_add, ← hQ, t_digitAt hT hP, nI_1, if_pos g, Int32.mul_comm x3 10]
theorem t_nstop {k : Nat} {p0 p1 x3 x4 : Int32} (h : p1 ≤ x4) : mX6_number_L5 signs len p0 p1 (k + 1) x3 x4 = x3 := by
  rw [mX6_number_L5_s, mX6_number_S5, if_pos h]
theorem t_c1 {p0 lo hi : Int32} : mX6_errorInNumber signs len p0 1 lo hi = mX6_errorInNumber_L31 signs len p0 1 lo hi 11 (1 * 10) 0 0 := by
  have a0 := t_go6 (signs := signs) (len := len) (p0 := p0) (p1 := 1) (lo := lo) (hi := hi) (k := 10) (x5 := 1) (x6 := 0) (by decide)
  have b := t_stop6 (signs := signs) (len := len) (p0 := p0) (p1 := 1) (lo := lo) (hi := hi) (k := 9) (x5 := 1 * 10) (x6 := 0 + 1) (by decide)
  exact a0.trans (b)
theorem t_c2 {p0 lo hi : Int32} : mX6_errorInNumber signs len p0 2 lo hi = mX6_errorInNumber_L31 signs len p0 2 lo hi 11 (1 * 10 * 10) 0 0 := by
  have a0 := t_go6 (signs := signs) (len := len) (p0 := p0) (p1 := 2) (lo := lo) (hi := hi) (k := 10) (x5 := 1) (x6 := 0) (by decide)
  have a1 := t_go6 (signs := signs) (len := len) (p0 := p0) (p1 := 2) (lo := lo) (hi := hi) (k := 9) (x5 := 1 * 10) (x6 := 0 + 1) (by decide)
  have b := t_stop6 (signs := signs) (len := len) (p0 := p0) (p1 := 2) (lo := lo) (hi := hi) (k := 8) (x5 := 1 * 10 * 10) (x6 := 0 + 1 + 1) (by decide)
  exact a0.trans (a1.trans (b))
theorem t_c6 {p0 lo hi : Int32} : mX6_errorInNumber signs len p0 6 lo hi = mX6_errorInNumber_L31 signs len p0 6 lo hi 11 (1 * 10 * 10 * 10 * 10 * 10 * 10) 0 0 := by
  have a0 := t_go6 (signs := signs) (len := len) (p0 := p0) (p1 := 6) (lo := lo) (hi := hi) (k := 10) (x5 := 1) (x6 := 0) (by decide)
  have a1 := t_go6 (signs := signs) (len := len) (p0 := p0) (p1 := 6) (lo := lo) (hi := hi) (k := 9) (x5 := 1 * 10) (x6 := 0 + 1) (by decide)
  have a2 := t_go6 (signs := signs) (len := len) (p0 := p0) (p1 := 6) (lo := lo) (hi := hi) (k := 8) (x5 := 1 * 10 * 10) (x6 := 0 + 1 + 1) (by decide)
  have a3 := t_go6 (signs := signs) (len := len) (p0 := p0) (p1 := 6) (lo := lo) (hi := hi) (k := 7) (x5 := 1 * 10 * 10 * 10) (x6 := 0 + 1 + 1 + 1) (by decide)
  have a4 := t_go6 (signs := signs) (len := len) (p0 := p0) (p1 := 6) (lo := lo) (hi := hi) (k := 6) (x5 := 1 * 10 * 10 * 10 * 10) (x6 := 0 + 1 + 1 + 1 + 1) (by decide)
  have a5 := t_go6 (signs := signs) (len := len) (p0 := p0) (p1 := 6) (lo := lo) (hi := hi) (k := 5) (x5 := 1 * 10 * 10 * 10 * 10 * 10) (x6 := 0 + 1 + 1 + 1 + 1 + 1) (by decide)
  have b := t_stop6 (signs := signs) (len := len) (p0 := p0) (p1 := 6) (lo := lo) (hi := hi) (k := 4) (x5 := 1 * 10 * 10 * 10 * 10 * 10 * 10) (x6 := 0 + 1 + 1 + 1 + 1 + 1 + 1) (by decide)
  exact a0.trans (a1.trans (a2.trans (a3.trans (a4.trans (a5.trans (b))))))
/-- one digit -/
theorem t_one {P : Nat} {lo hi : Int32} {LO HI : Int} (hT : TR L len ss signs scr) (hP : P < 900) (hlo : lo.toInt = LO) (hhi : hi.toInt = HI) :
    (tD L scr P LO HI ∧ mX6_errorInNumber signs len (nI P) 1 lo hi = -1 ∧ mX6_number signs len (nI P) 1 = scr P - 48 ∧ mX8_digit rf ss (nI P) 1 lf ac scr lo hi = (scr P - 48, nI (P + 1), 1)) ∨
    (mX6_errorInNumber signs len (nI P) 1 lo hi = nI P ∧ mX8_digit rf ss (nI P) 1 lf ac scr lo hi = (lo, nI P, 0)) := by
  have l10 : (1 : Int32) ≤ nI 1 := nI_le (a := 1) (b := 1) (by omega) (by omega)
  have n10 : ¬ (1 : Int32) ≤ nI 0 := nI_ge (a := 0) (b := 1) (by omega) (by omega)
  have e := t_step (k := 10) (i := 0) (p1 := 1) (x5 := 1 * 10) (x6 := 0) (S := 1) (X := 0) hT (show P = P + 0 from rfl) (by omega) n10 (by decide) (by omega) (by decide) (by omega) hlo hhi
  have s := t_stop31 (k := 9) (signs := signs) (len := len) (p0 := nI P) (p1 := 1) (lo := lo) (hi := hi) (x5 := 1 * 10 / 10) (x6 := 0 + (scr P - 48) * (1 * 10 / 10)) (x7 := nI (0 + 1)) l10
  have e' := t_c1.trans e
  rw [t_d (lf := lf) (rf := rf) (ac := ac) hT (by omega) hlo hhi]
  by_cases c : tD L scr P LO HI
  · left
    obtain ⟨c1, c2, c3⟩ := c
    rw [if_pos (show tD L scr P LO HI from ⟨c1, c2, c3⟩)]
    refine ⟨⟨c1, c2, c3⟩, ?_, ?_, rfl⟩
    · rw [e', if_pos ⟨c1, by omega, by omega⟩]
      exact s
    · have n1 := t_nstep (k := 10) (i := 0) (p1 := 1) (x3 := 0) hT (show P = P + 0 from rfl) (by omega) n10 c1
      have n2 := t_nstop (k := 9) (signs := signs) (len := len) (p0 := nI P) (p1 := 1) (x3 := 10 * 0 + (scr P - 48)) (x4 := nI (0 + 1)) l10
      have n3 := n1.trans n2
      rw [Int32.mul_zero, Int32.zero_add] at n3
      exact n3
  · right
    rw [if_neg c]
    refine ⟨?_, rfl⟩
    rw [e']
    refine if_neg (fun z => c ⟨z.1, ?_, ?_⟩)
    · have := z.2.2; omega
    · have := z.2.1; omega
theorem t_pF {lo t : Int32} {LO d : Int} (hlo : lo.toInt = LO) (h0 : 0 ≤ LO ∧ LO ≤ 99) (hd : t.toInt = d) (hd9 : 0 ≤ d ∧ d ≤ 9) : (pFrom lo t).toInt = if 10 * d ≤ LO then LO - 10 * d else 0 := by
  have l0 : (0 : Int32).toInt = 0 := by decide
  have l10 : (10 : Int32).toInt = 10 := by decide
  have m : (10 * t).toInt = 10 * d := by
    rw [fc_mul (by rw [l10, hd]; omega) (by rw [l10, hd]; omega), l10, hd]
  have s : (lo - 10 * t).toInt = LO - 10 * d := by
    rw [fc_sub (by rw [m, hlo]; omega) (by rw [m, hlo]; omega), m, hlo]
  unfold pFrom
  by_cases c : 10 * d ≤ LO
  · rw [if_pos (show (0 : Int32) ≤ lo - 10 * t by rw [fc_le]; omega), if_pos c, s]
  · rw [if_neg (show ¬ (0 : Int32) ≤ lo - 10 * t by rw [fc_le]; omega), if_neg c, l0]
theorem t_pT {hi t : Int32} {HI d : Int} (hhi : hi.toInt = HI) (h0 : 0 ≤ HI ∧ HI ≤ 99) (hd : t.toInt = d) (hd9 : 0 ≤ d ∧ d ≤ 9) : (pTo hi t).toInt = if HI - 10 * d ≤ 9 then HI - 10 * d else 9 := by
  have l9 : (9 : Int32).toInt = 9 := by decide
  have l10 : (10 : Int32).toInt = 10 := by decide
  have m : (10 * t).toInt = 10 * d := by
    rw [fc_mul (by rw [l10, hd]; omega) (by rw [l10, hd]; omega), l10, hd]
  have s : (hi - 10 * t).toInt = HI - 10 * d := by
    rw [fc_sub (by rw [m, hhi]; omega) (by rw [m, hhi]; omega), m, hhi]
  unfold pTo
  by_cases c : HI - 10 * d ≤ 9
  · rw [if_pos (show hi - 10 * t ≤ 9 by rw [fc_le]; omega), if_pos c, s]
  · rw [if_neg (show ¬ hi - 10 * t ≤ 9 by rw [fc_le]; omega), if_neg c, l9]
/-- two digits -/
theorem t_two {P : Nat} {lo hi : Int32} {LO HI : Int} (hT : TR L len ss signs scr) (hP : P < 900) (hlo : lo.toInt = LO) (hhi : hi.toInt = HI) (hL : 0 ≤ LO ∧ LO ≤ HI ∧ HI ≤ 99) :
    (∃ v, mX6_errorInNumber signs len (nI P) 2 lo hi = -1 ∧ mX6_number signs len (nI P) 2 = v ∧ mX8_two rf ss (nI P) 1 lf ac scr lo hi = (v, nI (P + 2), 1) ∧ LO ≤ v.toInt ∧ v.toInt ≤ HI ∧ P + 2 ≤ L) ∨
    (∃ v Q, mX6_errorInNumber signs len (nI P) 2 lo hi = nI Q ∧ mX8_two rf ss (nI P) 1 lf ac scr lo hi = (v, nI Q, 0) ∧ Q < 1000) := by
  have l22 : (2 : Int32) ≤ nI 2 := nI_le (a := 2) (b := 2) (by omega) (by omega)
  have n20 : ¬ (2 : Int32) ≤ nI 0 := nI_ge (a := 0) (b := 2) (by omega) (by omega)
  have n21 : ¬ (2 : Int32) ≤ nI 1 := nI_ge (a := 1) (b := 2) (by omega) (by omega)
  have l10 : (10 : Int32).toInt = 10 := by decide
  have dlo : (lo / 10).toInt = LO / 10 := by
    have := fc_divk (x := lo) (k := 10) (n := 10) (by decide) (by decide)
    rw [Int.tdiv_eq_ediv_of_nonneg (by omega), hlo] at this
    exact this
  have dhi : (hi / 10).toInt = HI / 10 := by
    have := fc_divk (x := hi) (k := 10) (n := 10) (by decide) (by decide)
    rw [Int.tdiv_eq_ediv_of_nonneg (by omega), hhi] at this
    exact this
  have e := t_c2.trans (t_step (k := 10) (i := 0) (p1 := 2) (x5 := 1 * 10 * 10) (x6 := 0) (S := 10) (X := 0) hT (show P = P + 0 from rfl) (by omega) n20 (by decide) (by omega) (by decide) (by omega) hlo hhi)
  have d1 := t_d (rf := rf) (lf := lf) (ac := ac) hT (show P < 1000 by omega) dlo dhi
  by_cases c : tD L scr P (LO / 10) (HI / 10)
  · obtain ⟨c1, c2, c3⟩ := c
    rw [if_pos (show tD L scr P (LO / 10) (HI / 10) from ⟨c1, c2, c3⟩)] at d1
    have v1 := t_val hT c1.1
    have m1 : ((scr P - 48) * 10).toInt = ((scr P).toInt - 48) * 10 := by
      rw [fc_mul (by rw [v1, l10]; omega) (by rw [v1, l10]; omega), v1, l10]
    have x1 : (0 + (scr P - 48) * (1 * 10 * 10 / 10)).toInt = ((scr P).toInt - 48) * 10 := by
      rw [show (1 * 10 * 10 / 10 : Int32) = 10 by decide, Int32.zero_add]; exact m1
    rw [if_pos ⟨c1, by omega, by omega⟩] at e
    have e2 := e.trans (t_step (k := 9) (i := 1) (p1 := 2) (x5 := 1 * 10 * 10 / 10) (S := 1) hT (show P + 1 = P + 1 from rfl) (by omega) n21 (by decide) (by omega) x1 (by omega) hlo hhi)
    have pf := t_pF (lo := lo) (t := scr P - 48) hlo (by omega) v1 c1.2
    have pt := t_pT (hi := hi) (t := scr P - 48) hhi (by omega) v1 c1.2
    have d2 := t_d (rf := rf) (lf := lf) (ac := ac) hT (show P + 1 < 1000 by omega) pf pt
    by_cases g : tD L scr (P + 1) (if 10 * ((scr P).toInt - 48) ≤ LO then LO - 10 * ((scr P).toInt - 48) else 0) (if HI - 10 * ((scr P).toInt - 48) ≤ 9 then HI - 10 * ((scr P).toInt - 48) else 9)
    · left
      rw [if_pos g] at d2
      obtain ⟨g1, g2, g3⟩ := g
      have v2 := t_val hT g1.1
      have q1 : LO ≤ 10 * ((scr P).toInt - 48) + ((scr (P + 1)).toInt - 48) := by
        split at g2 <;> omega
      have q2 : 10 * ((scr P).toInt - 48) + ((scr (P + 1)).toInt - 48) ≤ HI := by
        split at g3 <;> omega
      have m2 : (10 * (scr P - 48)).toInt = 10 * ((scr P).toInt - 48) := by
        rw [fc_mul (by rw [v1, l10]; omega) (by rw [v1, l10]; omega), v1, l10]
      have vv : (10 * (scr P - 48) + (scr (P + 1) - 48)).toInt = 10 * ((scr P).toInt - 48) + ((scr (P + 1)).toInt - 48) := by
        rw [fc_add (by rw [m2, v2]; omega) (by rw [m2, v2]; omega), m2, v2]
      refine ⟨10 * (scr P - 48) + (scr (P + 1) - 48), ?_, ?_, fr_two_eq d1 d2, by omega, by omega, by have := g1.1; omega⟩
      · rw [e2, if_pos ⟨g1, by omega, by omega⟩]
        exact t_stop31 (k := 8) l22
      · have n1 := t_nstep (k := 10) (i := 0) (p1 := 2) (x3 := 0) hT (show P = P + 0 from rfl) (by omega) n20 c1
        have n2 := t_nstep (k := 9) (i := 1) (p1 := 2) (x3 := 10 * 0 + (scr P - 48)) hT (show P + 1 = P + 1 from rfl) (by omega) n21 g1
        have n3 := t_nstop (k := 8) (signs := signs) (len := len) (p0 := nI P) (p1 := 2) (x3 := 10 * (10 * 0 + (scr P - 48)) + (scr (P + 1) - 48)) (x4 := nI 2) l22
        have n4 := n1.trans (n2.trans n3)
        rw [Int32.mul_zero, Int32.zero_add] at n4
        exact n4
    · right
      rw [if_neg g] at d2
      refine ⟨_, P + 1, ?_, fr_two_eq d1 d2, by omega⟩
      rw [e2]
      refine if_neg (fun z => g ⟨z.1, ?_, ?_⟩)
      · have z1 := z.2.2
        have z2 := z.1.2.1
        split <;> omega
      · have z1 := z.2.1
        have z2 := z.1.2.2
        split <;> omega
  · right
    rw [if_neg c] at d1
    refine ⟨_, P, ?_, fr_two_eq d1 t_d0, by omega⟩
    rw [e]
    refine if_neg (fun z => c ⟨z.1, ?_, ?_⟩)
    · have := z.2.2; omega
    · have := z.2.1; omega
/-- six digits -/
theorem t_six {P : Nat} {rrow : Nat → Int32} (hT : TR L len ss signs scr) (hP : P < 900) :
    (∃ v, mX6_errorInNumber signs len (nI P) 6 0 999999 = -1 ∧ mX6_number signs len (nI P) 6 = v ∧ mX8_readPicture_C1 rf ss lf ac scr rrow (nI P, 1) = (nI (P + 6), 1, (mX8_shootIn rrow v).2) ∧ 0 ≤ v.toInt ∧ v.toInt ≤ 999999 ∧ P + 6 ≤ L) ∨
    (∃ Q, mX6_errorInNumber signs len (nI P) 6 0 999999 = nI Q ∧ mX8_readPicture_C1 rf ss lf ac scr rrow (nI P, 1) = (nI Q, 0, rrow) ∧ Q < 1000) := by
  have l0 : (0 : Int32).toInt = 0 := by decide
  have l9 : (9 : Int32).toInt = 9 := by decide
  have l10 : (10 : Int32).toInt = 10 := by decide
  have lh : (999999 : Int32).toInt = 999999 := by decide
  have l66 : (6 : Int32) ≤ nI 6 := nI_le (a := 6) (b := 6) (by omega) (by omega)
  have n60 : ¬ (6 : Int32) ≤ nI 0 := nI_ge (a := 0) (b := 6) (by omega) (by omega)
  have n61 : ¬ (6 : Int32) ≤ nI 1 := nI_ge (a := 1) (b := 6) (by omega) (by omega)
  have n62 : ¬ (6 : Int32) ≤ nI 2 := nI_ge (a := 2) (b := 6) (by omega) (by omega)
  have n63 : ¬ (6 : Int32) ≤ nI 3 := nI_ge (a := 3) (b := 6) (by omega) (by omega)
  have n64 : ¬ (6 : Int32) ≤ nI 4 := nI_ge (a := 4) (b := 6) (by omega) (by omega)
  have n65 : ¬ (6 : Int32) ≤ nI 5 := nI_ge (a := 5) (b := 6) (by omega) (by omega)
  unfold mX8_readPicture_C1
  dsimp only
  have e0 := t_c6.trans (t_step (k := 10) (i := 0) (p1 := 6) (x5 := 1 * 10 * 10 * 10 * 10 * 10 * 10) (x6 := 0) (S := 100000) (X := 0) hT (show P = P + 0 from rfl) (by omega) n60 (by decide) (by omega) (by decide) (by omega) l0 lh)
  have d0 := t_d (rf := rf) (lf := lf) (ac := ac) hT (show P < 1000 by omega) l0 l9
  by_cases c0 : tG L scr P
  · have v0 := t_val hT c0.1
    rw [if_pos (show tD L scr P 0 9 from ⟨c0, c0.2⟩)] at d0
    rw [if_pos ⟨c0, by omega, by omega⟩] at e0
    rw [d0]
    unfold mX8_readPicture_C3
    dsimp only
    have m0 : ((scr P - 48) * (1 * 10 * 10 * 10 * 10 * 10 * 10 / 10)).toInt = ((scr P).toInt - 48) * 100000 := by
      have q : (1 * 10 * 10 * 10 * 10 * 10 * 10 / 10 : Int32).toInt = 100000 := by decide
      rw [fc_mul (by rw [v0, q]; omega) (by rw [v0, q]; omega), v0, q]
    have x1 : (0 + (scr P - 48) * (1 * 10 * 10 * 10 * 10 * 10 * 10 / 10)).toInt = ((scr P).toInt - 48) * 100000 := by
      rw [Int32.zero_add, m0]
    have t0 : (10 * 0 : Int32).toInt = 10 * 0 := by
      decide
    have w1 : (10 * 0 + (scr P - 48)).toInt = 10 * 0 + ((scr P).toInt - 48) := by
      rw [fc_add (by rw [t0, v0]; omega) (by rw [t0, v0]; omega), t0, v0]
    have e1 := e0.trans (t_step (k := 9) (i := 1) (p1 := 6) (x5 := 1 * 10 * 10 * 10 * 10 * 10 * 10 / 10) (x6 := 0 + (scr P - 48) * (1 * 10 * 10 * 10 * 10 * 10 * 10 / 10)) (S := 10000) (X := ((scr P).toInt - 48) * 100000) hT (show P + 1 = P + 1 from rfl) (by omega) n61 (by decide) (by omega) x1 (by omega) l0 lh)
    have d1 := t_d (rf := rf) (lf := lf) (ac := ac) hT (show P + 1 < 1000 by omega) l0 l9
    by_cases c1 : tG L scr (P + 1)
    · have v1 := t_val hT c1.1
      rw [if_pos (show tD L scr (P + 1) 0 9 from ⟨c1, c1.2⟩)] at d1
      rw [if_pos ⟨c1, by omega, by omega⟩] at e1
      rw [d1]
      unfold mX8_readPicture_C5
      dsimp only
      have m1 : ((scr (P + 1) - 48) * (1 * 10 * 10 * 10 * 10 * 10 * 10 / 10 / 10)).toInt = ((scr (P + 1)).toInt - 48) * 10000 := by
        have q : (1 * 10 * 10 * 10 * 10 * 10 * 10 / 10 / 10 : Int32).toInt = 10000 := by decide
        rw [fc_mul (by rw [v1, q]; omega) (by rw [v1, q]; omega), v1, q]
      have x2 : (0 + (scr P - 48) * (1 * 10 * 10 * 10 * 10 * 10 * 10 / 10) + (scr (P + 1) - 48) * (1 * 10 * 10 * 10 * 10 * 10 * 10 / 10 / 10)).toInt = ((scr P).toInt - 48) * 100000 + ((scr (P + 1)).toInt - 48) * 10000 := by
        rw [fc_add (by rw [m1, x1]; omega) (by rw [m1, x1]; omega), m1, x1]
      have t1 : (10 * (10 * 0 + (scr P - 48)) : Int32).toInt = 10 * (10 * 0 + ((scr P).toInt - 48)) := by
        rw [fc_mul (by rw [l10, w1]; omega) (by rw [l10, w1]; omega), l10, w1]
      have w2 : (10 * (10 * 0 + (scr P - 48)) + (scr (P + 1) - 48)).toInt = 10 * (10 * 0 + ((scr P).toInt - 48)) + ((scr (P + 1)).toInt - 48) := by
        rw [fc_add (by rw [t1, v1]; omega) (by rw [t1, v1]; omega), t1, v1]
      have e2 := e1.trans (t_step (k := 8) (i := 2) (p1 := 6) (x5 := 1 * 10 * 10 * 10 * 10 * 10 * 10 / 10 / 10) (x6 := 0 + (scr P - 48) * (1 * 10 * 10 * 10 * 10 * 10 * 10 / 10) + (scr (P + 1) - 48) * (1 * 10 * 10 * 10 * 10 * 10 * 10 / 10 / 10)) (S := 1000) (X := ((scr P).toInt - 48) * 100000 + ((scr (P + 1)).toInt - 48) * 10000) hT (show P + 2 = P + 2 from rfl) (by omega) n62 (by decide) (by omega) x2 (by omega) l0 lh)
      have d2 := t_d (rf := rf) (lf := lf) (ac := ac) hT (show P + 2 < 1000 by omega) l0 l9
      by_cases c2 : tG L scr (P + 2)
      · have v2 := t_val hT c2.1
        rw [if_pos (show tD L scr (P + 2) 0 9 from ⟨c2, c2.2⟩)] at d2
        rw [if_pos ⟨c2, by omega, by omega⟩] at e2
        rw [d2]
        unfold mX8_readPicture_C7
        dsimp only
        have m2 : ((scr (P + 2) - 48) * (1 * 10 * 10 * 10 * 10 * 10 * 10 / 10 / 10 / 10)).toInt = ((scr (P + 2)).toInt - 48) * 1000 := by
          have q : (1 * 10 * 10 * 10 * 10 * 10 * 10 / 10 / 10 / 10 : Int32).toInt = 1000 := by decide
          rw [fc_mul (by rw [v2, q]; omega) (by rw [v2, q]; omega), v2, q]
        have x3 : (0 + (scr P - 48) * (1 * 10 * 10 * 10 * 10 * 10 * 10 / 10) + (scr (P + 1) - 48) * (1 * 10 * 10 * 10 * 10 * 10 * 10 / 10 / 10) + (scr (P + 2) - 48) * (1 * 10 * 10 * 10 * 10 * 10 * 10 / 10 / 10 / 10)).toInt = ((scr P).toInt - 48) * 100000 + ((scr (P + 1)).toInt - 48) * 10000 + ((scr (P + 2)).toInt - 48) * 1000 := by
          rw [fc_add (by rw [m2, x2]; omega) (by rw [m2, x2]; omega), m2, x2]
        have t2 : (10 * (10 * (10 * 0 + (scr P - 48)) + (scr (P + 1) - 48)) : Int32).toInt = 10 * (10 * (10 * 0 + ((scr P).toInt - 48)) + ((scr (P + 1)).toInt - 48)) := by
          rw [fc_mul (by rw [l10, w2]; omega) (by rw [l10, w2]; omega), l10, w2]
        have w3 : (10 * (10 * (10 * 0 + (scr P - 48)) + (scr (P + 1) - 48)) + (scr (P + 2) - 48)).toInt = 10 * (10 * (10 * 0 + ((scr P).toInt - 48)) + ((scr (P + 1)).toInt - 48)) + ((scr (P + 2)).toInt - 48) := by
          rw [fc_add (by rw [t2, v2]; omega) (by rw [t2, v2]; omega), t2, v2]
        have e3 := e2.trans (t_step (k := 7) (i := 3) (p1 := 6) (x5 := 1 * 10 * 10 * 10 * 10 * 10 * 10 / 10 / 10 / 10) (x6 := 0 + (scr P - 48) * (1 * 10 * 10 * 10 * 10 * 10 * 10 / 10) + (scr (P + 1) - 48) * (1 * 10 * 10 * 10 * 10 * 10 * 10 / 10 / 10) + (scr (P + 2) - 48) * (1 * 10 * 10 * 10 * 10 * 10 * 10 / 10 / 10 / 10)) (S := 100) (X := ((scr P).toInt - 48) * 100000 + ((scr (P + 1)).toInt - 48) * 10000 + ((scr (P + 2)).toInt - 48) * 1000) hT (show P + 3 = P + 3 from rfl) (by omega) n63 (by decide) (by omega) x3 (by omega) l0 lh)
        have d3 := t_d (rf := rf) (lf := lf) (ac := ac) hT (show P + 3 < 1000 by omega) l0 l9
        by_cases c3 : tG L scr (P + 3)
        · have v3 := t_val hT c3.1
          rw [if_pos (show tD L scr (P + 3) 0 9 from ⟨c3, c3.2⟩)] at d3
          rw [if_pos ⟨c3, by omega, by omega⟩] at e3
          rw [d3]
          unfold mX8_readPicture_C9
          dsimp only
          have m3 : ((scr (P + 3) - 48) * (1 * 10 * 10 * 10 * 10 * 10 * 10 / 10 / 10 / 10 / 10)).toInt = ((scr (P + 3)).toInt - 48) * 100 := by
            have q : (1 * 10 * 10 * 10 * 10 * 10 * 10 / 10 / 10 / 10 / 10 : Int32).toInt = 100 := by decide
            rw [fc_mul (by rw [v3, q]; omega) (by rw [v3, q]; omega), v3, q]
          have x4 : (0 + (scr P - 48) * (1 * 10 * 10 * 10 * 10 * 10 * 10 / 10) + (scr (P + 1) - 48) * (1 * 10 * 10 * 10 * 10 * 10 * 10 / 10 / 10) + (scr (P + 2) - 48) * (1 * 10 * 10 * 10 * 10 * 10 * 10 / 10 / 10 / 10) + (scr (P + 3) - 48) * (1 * 10 * 10 * 10 * 10 * 10 * 10 / 10 / 10 / 10 / 10)).toInt = ((scr P).toInt - 48) * 100000 + ((scr (P + 1)).toInt - 48) * 10000 + ((scr (P + 2)).toInt - 48) * 1000 + ((scr (P + 3)).toInt - 48) * 100 := by
            rw [fc_add (by rw [m3, x3]; omega) (by rw [m3, x3]; omega), m3, x3]
          have t3 : (10 * (10 * (10 * (10 * 0 + (scr P - 48)) + (scr (P + 1) - 48)) + (scr (P + 2) - 48)) : Int32).toInt = 10 * (10 * (10 * (10 * 0 + ((scr P).toInt - 48)) + ((scr (P + 1)).toInt - 48)) + ((scr (P + 2)).toInt - 48)) := by
            rw [fc_mul (by rw [l10, w3]; omega) (by rw [l10, w3]; omega), l10, w3]
          have w4 : (10 * (10 * (10 * (10 * 0 + (scr P - 48)) + (scr (P + 1) - 48)) + (scr (P + 2) - 48)) + (scr (P + 3) - 48)).toInt = 10 * (10 * (10 * (10 * 0 + ((scr P).toInt - 48)) + ((scr (P + 1)).toInt - 48)) + ((scr (P + 2)).toInt - 48)) + ((scr (P + 3)).toInt - 48) := by
            rw [fc_add (by rw [t3, v3]; omega) (by rw [t3, v3]; omega), t3, v3]
          have e4 := e3.trans (t_step (k := 6) (i := 4) (p1 := 6) (x5 := 1 * 10 * 10 * 10 * 10 * 10 * 10 / 10 / 10 / 10 / 10) (x6 := 0 + (scr P - 48) * (1 * 10 * 10 * 10 * 10 * 10 * 10 / 10) + (scr (P + 1) - 48) * (1 * 10 * 10 * 10 * 10 * 10 * 10 / 10 / 10) + (scr (P + 2) - 48) * (1 * 10 * 10 * 10 * 10 * 10 * 10 / 10 / 10 / 10) + (scr (P + 3) - 48) * (1 * 10 * 10 * 10 * 10 * 10 * 10 / 10 / 10 / 10 / 10)) (S := 10) (X := ((scr P).toInt - 48) * 100000 + ((scr (P + 1)).toInt - 48) * 10000 + ((scr (P + 2)).toInt - 48) * 1000 + ((scr (P + 3)).toInt - 48) * 100) hT (show P + 4 = P + 4 from rfl) (by omega) n64 (by decide) (by omega) x4 (by omega) l0 lh)
          have d4 := t_d (rf := rf) (lf := lf) (ac := ac) hT (show P + 4 < 1000 by omega) l0 l9
          by_cases c4 : tG L scr (P + 4)
          · have v4 := t_val hT c4.1
            rw [if_pos (show tD L scr (P + 4) 0 9 from ⟨c4, c4.2⟩)] at d4
            rw [if_pos ⟨c4, by omega, by omega⟩] at e4
            rw [d4]
            unfold mX8_readPicture_C11
            dsimp only
            have m4 : ((scr (P + 4) - 48) * (1 * 10 * 10 * 10 * 10 * 10 * 10 / 10 / 10 / 10 / 10 / 10)).toInt = ((scr (P + 4)).toInt - 48) * 10 := by
              have q : (1 * 10 * 10 * 10 * 10 * 10 * 10 / 10 / 10 / 10 / 10 / 10 : Int32).toInt = 10 := by decide
              rw [fc_mul (by rw [v4, q]; omega) (by rw [v4, q]; omega), v4, q]
            have x5 : (0 + (scr P - 48) * (1 * 10 * 10 * 10 * 10 * 10 * 10 / 10) + (scr (P + 1) - 48) * (1 * 10 * 10 * 10 * 10 * 10 * 10 / 10 / 10) + (scr (P + 2) - 48) * (1 * 10 * 10 * 10 * 10 * 10 * 10 / 10 / 10 / 10) + (scr (P + 3) - 48) * (1 * 10 * 10 * 10 * 10 * 10 * 10 / 10 / 10 / 10 / 10) + (scr (P + 4) - 48) * (1 * 10 * 10 * 10 * 10 * 10 * 10 / 10 / 10 / 10 / 10 / 10)).toInt = ((scr P).toInt - 48) * 100000 + ((scr (P + 1)).toInt - 48) * 10000 + ((scr (P + 2)).toInt - 48) * 1000 + ((scr (P + 3)).toInt - 48) * 100 + ((scr (P + 4)).toInt - 48) * 10 := by
              rw [fc_add (by rw [m4, x4]; omega) (by rw [m4, x4]; omega), m4, x4]
            have t4 : (10 * (10 * (10 * (10 * (10 * 0 + (scr P - 48)) + (scr (P + 1) - 48)) + (scr (P + 2) - 48)) + (scr (P + 3) - 48)) : Int32).toInt = 10 * (10 * (10 * (10 * (10 * 0 + ((scr P).toInt - 48)) + ((scr (P + 1)).toInt - 48)) + ((scr (P + 2)).toInt - 48)) + ((scr (P + 3)).toInt - 48)) := by
              rw [fc_mul (by rw [l10, w4]; omega) (by rw [l10, w4]; omega), l10, w4]
            have w5 : (10 * (10 * (10 * (10 * (10 * 0 + (scr P - 48)) + (scr (P + 1) - 48)) + (scr (P + 2) - 48)) + (scr (P + 3) - 48)) + (scr (P + 4) - 48)).toInt = 10 * (10 * (10 * (10 * (10 * 0 + ((scr P).toInt - 48)) + ((scr (P + 1)).toInt - 48)) + ((scr (P + 2)).toInt - 48)) + ((scr (P + 3)).toInt - 48)) + ((scr (P + 4)).toInt - 48) := by
              rw [fc_add (by rw [t4, v4]; omega) (by rw [t4, v4]; omega), t4, v4]
            have e5 := e4.trans (t_step (k := 5) (i := 5) (p1 := 6) (x5 := 1 * 10 * 10 * 10 * 10 * 10 * 10 / 10 / 10 / 10 / 10 / 10) (x6 := 0 + (scr P - 48) * (1 * 10 * 10 * 10 * 10 * 10 * 10 / 10) + (scr (P + 1) - 48) * (1 * 10 * 10 * 10 * 10 * 10 * 10 / 10 / 10) + (scr (P + 2) - 48) * (1 * 10 * 10 * 10 * 10 * 10 * 10 / 10 / 10 / 10) + (scr (P + 3) - 48) * (1 * 10 * 10 * 10 * 10 * 10 * 10 / 10 / 10 / 10 / 10) + (scr (P + 4) - 48) * (1 * 10 * 10 * 10 * 10 * 10 * 10 / 10 / 10 / 10 / 10 / 10)) (S := 1) (X := ((scr P).toInt - 48) * 100000 + ((scr (P + 1)).toInt - 48) * 10000 + ((scr (P + 2)).toInt - 48) * 1000 + ((scr (P + 3)).toInt - 48) * 100 + ((scr (P + 4)).toInt - 48) * 10) hT (show P + 5 = P + 5 from rfl) (by omega) n65 (by decide) (by omega) x5 (by omega) l0 lh)
            have d5 := t_d (rf := rf) (lf := lf) (ac := ac) hT (show P + 5 < 1000 by omega) l0 l9
            by_cases c5 : tG L scr (P + 5)
            · have v5 := t_val hT c5.1
              rw [if_pos (show tD L scr (P + 5) 0 9 from ⟨c5, c5.2⟩)] at d5
              rw [if_pos ⟨c5, by omega, by omega⟩] at e5
              rw [d5]
              unfold mX8_readPicture_C13
              dsimp only
              have t5 : (10 * (10 * (10 * (10 * (10 * (10 * 0 + (scr P - 48)) + (scr (P + 1) - 48)) + (scr (P + 2) - 48)) + (scr (P + 3) - 48)) + (scr (P + 4) - 48)) : Int32).toInt = 10 * (10 * (10 * (10 * (10 * (10 * 0 + ((scr P).toInt - 48)) + ((scr (P + 1)).toInt - 48)) + ((scr (P + 2)).toInt - 48)) + ((scr (P + 3)).toInt - 48)) + ((scr (P + 4)).toInt - 48)) := by
                rw [fc_mul (by rw [l10, w5]; omega) (by rw [l10, w5]; omega), l10, w5]
              have w6 : (10 * (10 * (10 * (10 * (10 * (10 * 0 + (scr P - 48)) + (scr (P + 1) - 48)) + (scr (P + 2) - 48)) + (scr (P + 3) - 48)) + (scr (P + 4) - 48)) + (scr (P + 5) - 48)).toInt = 10 * (10 * (10 * (10 * (10 * (10 * 0 + ((scr P).toInt - 48)) + ((scr (P + 1)).toInt - 48)) + ((scr (P + 2)).toInt - 48)) + ((scr (P + 3)).toInt - 48)) + ((scr (P + 4)).toInt - 48)) + ((scr (P + 5)).toInt - 48) := by
                rw [fc_add (by rw [t5, v5]; omega) (by rw [t5, v5]; omega), t5, v5]
              left
              rw [if_neg t_10]
              refine ⟨10 * (10 * (10 * (10 * (10 * (10 * 0 + (scr P - 48)) + (scr (P + 1) - 48)) + (scr (P + 2) - 48)) + (scr (P + 3) - 48)) + (scr (P + 4) - 48)) + (scr (P + 5) - 48), ?_, ?_, ?_, by omega, by omega, by have := c5.1; omega⟩
              · rw [e5]
                exact t_stop31 (k := 4) l66
              · have n0 := t_nstep (k := 10) (i := 0) (p1 := 6) (x3 := 0) hT (show P = P + 0 from rfl) (by omega) n60 c0
                have n1 := t_nstep (k := 9) (i := 1) (p1 := 6) (x3 := 10 * 0 + (scr P - 48)) hT (show P + 1 = P + 1 from rfl) (by omega) n61 c1
                have n2 := t_nstep (k := 8) (i := 2) (p1 := 6) (x3 := 10 * (10 * 0 + (scr P - 48)) + (scr (P + 1) - 48)) hT (show P + 2 = P + 2 from rfl) (by omega) n62 c2
                have n3 := t_nstep (k := 7) (i := 3) (p1 := 6) (x3 := 10 * (10 * (10 * 0 + (scr P - 48)) + (scr (P + 1) - 48)) + (scr (P + 2) - 48)) hT (show P + 3 = P + 3 from rfl) (by omega) n63 c3
                have n4 := t_nstep (k := 6) (i := 4) (p1 := 6) (x3 := 10 * (10 * (10 * (10 * 0 + (scr P - 48)) + (scr (P + 1) - 48)) + (scr (P + 2) - 48)) + (scr (P + 3) - 48)) hT (show P + 4 = P + 4 from rfl) (by omega) n64 c4
                have n5 := t_nstep (k := 5) (i := 5) (p1 := 6) (x3 := 10 * (10 * (10 * (10 * (10 * 0 + (scr P - 48)) + (scr (P + 1) - 48)) + (scr (P + 2) - 48)) + (scr (P + 3) - 48)) + (scr (P + 4) - 48)) hT (show P + 5 = P + 5 from rfl) (by omega) n65 c5
                have n6 := t_nstop (k := 4) (signs := signs) (len := len) (p0 := nI P) (p1 := 6) (x3 := 10 * (10 * (10 * (10 * (10 * (10 * 0 + (scr P - 48)) + (scr (P + 1) - 48)) + (scr (P + 2) - 48)) + (scr (P + 3) - 48)) + (scr (P + 4) - 48)) + (scr (P + 5) - 48)) (x4 := nI 6) l66
                exact n0.trans (n1.trans (n2.trans (n3.trans (n4.trans (n5.trans n6)))))
              · rfl
            · right
              rw [if_neg (show ¬ tD L scr (P + 5) 0 9 from fun z => c5 z.1)] at d5
              rw [d5]
              unfold mX8_readPicture_C13
              dsimp only
              rw [if_pos rfl]
              exact ⟨P + 5, by rw [e5]; exact if_neg (fun z => c5 z.1), rfl, by omega⟩
          · right
            rw [if_neg (show ¬ tD L scr (P + 4) 0 9 from fun z => c4 z.1)] at d4
            rw [d4]
            unfold mX8_readPicture_C11
            dsimp only
            rw [t_d0]
            unfold mX8_readPicture_C13
            dsimp only
            rw [if_pos rfl]
            exact ⟨P + 4, by rw [e4]; exact if_neg (fun z => c4 z.1), rfl, by omega⟩
        · right
          rw [if_neg (show ¬ tD L scr (P + 3) 0 9 from fun z => c3 z.1)] at d3
          rw [d3]
          unfold mX8_readPicture_C9
          dsimp only
          rw [t_d0]
          unfold mX8_readPicture_C11
          dsimp only
          rw [t_d0]
          unfold mX8_readPicture_C13
          dsimp only
          rw [if_pos rfl]
          exact ⟨P + 3, by rw [e3]; exact if_neg (fun z => c3 z.1), rfl, by omega⟩
      · right
        rw [if_neg (show ¬ tD L scr (P + 2) 0 9 from fun z => c2 z.1)] at d2
        rw [d2]
        unfold mX8_readPicture_C7
        dsimp only
        rw [t_d0]
        unfold mX8_readPicture_C9
        dsimp only
        rw [t_d0]
        unfold mX8_readPicture_C11
        dsimp only
        rw [t_d0]
        unfold mX8_readPicture_C13
        dsimp only
        rw [if_pos rfl]
        exact ⟨P + 2, by rw [e2]; exact if_neg (fun z => c2 z.1), rfl, by omega⟩
    · right
      rw [if_neg (show ¬ tD L scr (P + 1) 0 9 from fun z => c1 z.1)] at d1
      rw [d1]
      unfold mX8_readPicture_C5
      dsimp only
      rw [t_d0]
      unfold mX8_readPicture_C7
      dsimp only
      rw [t_d0]
      unfold mX8_readPicture_C9
      dsimp only
      rw [t_d0]
      unfold mX8_readPicture_C11
      dsimp only
      rw [t_d0]
      unfold mX8_readPicture_C13
      dsimp only
      rw [if_pos rfl]
      exact ⟨P + 1, by rw [e1]; exact if_neg (fun z => c1 z.1), rfl, by omega⟩
  · right
    rw [if_neg (show ¬ tD L scr P 0 9 from fun z => c0 z.1)] at d0
    rw [d0]
    unfold mX8_readPicture_C3
    dsimp only
    rw [t_d0]
    unfold mX8_readPicture_C5
    dsimp only
    rw [t_d0]
    unfold mX8_readPicture_C7
    dsimp only
    rw [t_d0]
    unfold mX8_readPicture_C9
    dsimp only
    rw [t_d0]
    unfold mX8_readPicture_C11
    dsimp only
    rw [t_d0]
    unfold mX8_readPicture_C13
    dsimp only
    rw [if_pos rfl]
    exact ⟨P, by rw [e0]; exact if_neg (fun z => c0 z.1), rfl, by omega⟩
end
