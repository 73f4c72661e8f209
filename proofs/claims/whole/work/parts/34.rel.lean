/-! PURE: how the class's state and the reference's row belong together -/
/-- the numbers of the frames, kept and waiting -/
def pnum (row : Nat → Int32) (K i : Nat) : Int32 := if i < K then row (67 + 5 * i) else row (307 + 4 * (i - K))
def RSc (set : Nat → Int32) (te ca dr lo la re rb rt rs rc rl lp : Int32) (row : Nat → Int32) : Prop :=
  ((set 0 = row 0 ∧ set 1 = row 1 ∧ set 2 = row 2) ∧ te = row 4 ∧ ca = row 5 ∧ dr = row 6 ∧ lo = row 7 ∧ la = row 8) ∧ re = row 9 ∧ rb = row 10 ∧ rt = row 11 ∧ rs = row 12 ∧ rc = row 13 ∧ rl = row 14 ∧ lp = row 15
def RNn (K W C B : Nat) (kl ql count rb : Int32) (row : Nat → Int32) : Prop :=
  ((kl = nI K ∧ row 16 = nI K) ∧ (ql = nI W ∧ row 17 = nI W) ∧ (count = nI C ∧ row 3 = nI C) ∧ rb = nI B ∧ row 18 = nI (min B 10)) ∧ W ≤ 4 ∧ 8 ≤ C ∧ C ≤ 48
def RBl (C : Nat) (holds : Nat → Int32) (free dirty : Int32) (row : Nat → Int32) : Prop :=
  (∀ b, b < C → holds b = row (19 + b)) ∧ free = nI (pcnt holds (-1) C) ∧ dirty = nI (pcnt holds (-2) C)
def RKe (K C : Nat) (holds kc row : Nat → Int32) : Prop := ∀ i, i < K → (∀ w, w < 4 → kc (7 * i + w) = row (67 + 5 * i + w)) ∧ kc (7 * i + 5) = row (67 + 5 * i + 4) ∧
  kc (7 * i + 4) = (if i = 0 then -1 else mX7_difference (row (67 + 5 * (i - 1) + 1)) (row (67 + 5 * i + 1))) ∧
  ∃ n m : Nat, row (67 + 5 * i + 2) = nI n ∧ 1 ≤ n ∧ n ≤ 7 ∧ pcnt holds (row (67 + 5 * i)) C = n ∧ plow holds (row (67 + 5 * i)) C m ∧ kc (7 * i + 6) = nI m
def RQu (W : Nat) (te : Int32) (qc row : Nat → Int32) : Prop := ∀ i, i < W → (∀ w, w < 4 → qc (7 * i + w) = row (307 + 4 * i + w)) ∧ (∃ n : Nat, row (307 + 4 * i + 2) = nI n ∧ 1 ≤ n ∧ n ≤ 7) ∧ 0 ≤ (row (307 + 4 * i + 3)).toInt ∧ (row (307 + 4 * i + 3)).toInt ≤ te.toInt
def RNu (K W C : Nat) (ca : Int32) (holds row : Nat → Int32) : Prop :=
  (∀ i j, i < j → j < K + W → (pnum row K i).toInt < (pnum row K j).toInt) ∧ (∀ i, i < K + W → 0 ≤ (pnum row K i).toInt ∧ (pnum row K i).toInt < ca.toInt) ∧
  ∀ b, b < C → (holds b).toInt < ca.toInt ∧ ∀ i, K ≤ i → i < K + W → holds b ≠ pnum row K i
def RTo (B : Nat) (told row : Nat → Int32) : Prop := ∀ k, k < min B 10 → ∀ j, j < 3 → told ((B - 1 - k) % 10 * 3 + j) = row (327 + 3 * k + j)
def RBd (Bd B : Nat) (te ca lp : Int32) (set : Nat → Int32) : Prop :=
  (0 ≤ te.toInt ∧ te.toInt ≤ Bd) ∧ (0 ≤ ca.toInt ∧ ca.toInt ≤ Bd) ∧ B ≤ Bd ∧ (lp = -1 ∨ 0 ≤ lp.toInt) ∧ ∃ p : Nat, p < 1000 ∧ set 0 = nI p
def RR (Bd K W C B : Nat) (set holds : Nat → Int32) (count free dirty : Int32) (kc : Nat → Int32) (kl : Int32) (qc : Nat → Int32) (ql : Int32) (told : Nat → Int32) (rt rc rl rs re rb te ca dr lo la lp : Int32) (row : Nat → Int32) : Prop :=
  (RSc set te ca dr lo la re rb rt rs rc rl lp row ∧ RNn K W C B kl ql count rb row ∧ RBl C holds free dirty row) ∧ (RKe K C holds kc row ∧ RQu W te qc row ∧ RNu K W C ca holds row) ∧ RTo B told row ∧ RBd Bd B te ca lp set
theorem pl_lit0 : (0 : Int32).toNatClampNeg = 0 := by decide
theorem pl_lit1 : (1 : Int32).toNatClampNeg = 1 := by decide
theorem pl_lit2 : (2 : Int32).toNatClampNeg = 2 := by decide
theorem pl_lit4 : (4 : Int32).toNatClampNeg = 4 := by decide
theorem pl_lit5 : (5 : Int32).toNatClampNeg = 5 := by decide
theorem pl_lit6 : (6 : Int32).toNatClampNeg = 6 := by decide
theorem pl_lit7 : (7 : Int32).toNatClampNeg = 7 := by decide
theorem pl_lit8 : (8 : Int32).toNatClampNeg = 8 := by decide
theorem pl_lit9 : (9 : Int32).toNatClampNeg = 9 := by decide
theorem pl_lit10 : (10 : Int32).toNatClampNeg = 10 := by decide
theorem pl_lit11 : (11 : Int32).toNatClampNeg = 11 := by decide
theorem pl_lit12 : (12 : Int32).toNatClampNeg = 12 := by decide
theorem pl_lit13 : (13 : Int32).toNatClampNeg = 13 := by decide
theorem pl_lit14 : (14 : Int32).toNatClampNeg = 14 := by decide
theorem pl_lit15 : (15 : Int32).toNatClampNeg = 15 := by decide
theorem pl_lit16 : (16 : Int32).toNatClampNeg = 16 := by decide
theorem pl_lit17 : (17 : Int32).toNatClampNeg = 17 := by decide
theorem pl_lit18 : (18 : Int32).toNatClampNeg = 18 := by decide
theorem pl_lit327 : (327 : Int32).toNatClampNeg = 327 := by decide
theorem pl_lit328 : (328 : Int32).toNatClampNeg = 328 := by decide
theorem pl_lit329 : (329 : Int32).toNatClampNeg = 329 := by decide
theorem pn4 {W : Nat} (h : W < 4) : ¬ nI W = 4 := by
  intro z
  have z1 := congrArg Int32.toInt z
  rw [fc_nI (by omega), show (4 : Int32).toInt = 4 from by decide] at z1
  omega
theorem pp_inc {x : Int32} {n : Nat} (h : 0 ≤ x.toInt ∧ x.toInt ≤ n) (hn : n < 2000000000) : (x + 1).toInt = x.toInt + 1 :=
  fc_addk (x := x) (k := 1) (n := 1) (by decide) (by omega) (by omega)
/-- what the class receives -/
theorem r_recv_full {set holds kc qc told : Nat → Int32} {count free dirty kl rt rc rl rs re rb te ca dr lo la lp p0 : Int32} : mX5_receive set holds count free dirty kc kl qc (nI 4) told rt rc rl rs re rb te ca dr lo la lp p0 = (-1, ca + 1, lo + 1, p0, nI 4, qc, rc + 1, rl + 1) := by
  unfold mX5_receive
  by_cases h : lp = -1
  · rw [if_pos h, if_neg (show ¬ nI 4 < 4 by decide)]
  · rw [if_neg h, if_neg (show ¬ nI 4 < 4 by decide)]
/-- the size of a frame that comes -/
noncomputable def psz (lp p0 : Int32) : Int32 := if lp = -1 then 7 else 1 + mX7_difference lp p0 / 9
theorem psz_rng {lp p0 : Int32} (hl : lp = -1 ∨ 0 ≤ lp.toInt) (hp : 0 ≤ p0.toInt) : ∃ n : Nat, psz lp p0 = nI n ∧ 1 ≤ n ∧ n ≤ 7 := by
  unfold psz
  by_cases h : lp = -1
  · rw [if_pos h]; exact ⟨7, rfl, by omega, by omega⟩
  · rw [if_neg h]
    have h1 := pd_size (hl.resolve_left h) hp
    have e0 : (0 : Int32).toInt = 0 := by decide
    obtain ⟨n, hn1, hn2⟩ := nI_of (x := 1 + mX7_difference lp p0 / 9) (by rw [fc_lt]; omega)
    rw [hn2, fc_nI (by omega)] at h1
    exact ⟨n, hn2, by omega, by omega⟩
theorem r_recv {set holds kc qc told : Nat → Int32} {count free dirty kl rt rc rl rs re rb te ca dr lo la lp p0 : Int32} {W : Nat} (hW : W < 4) : mX5_receive set holds count free dirty kc kl qc (nI W) told rt rc rl rs re rb te ca dr lo la lp p0 = (ca, ca + 1, lo, p0, nI (W + 1), upd (upd (upd (upd qc (7 * W) ca) (7 * W + 1) p0) (7 * W + 2) (psz lp p0)) (7 * W + 3) te, rc + 1, rl) := by
  unfold mX5_receive psz
  have h4 : nI W < 4 := nI_lt (a := W) (b := 4) hW (by decide)
  by_cases h : lp = -1
  · rw [if_pos h, if_pos h, if_pos h4, pg_add (by decide) (by omega)]
  · rw [if_neg h, if_neg h, if_pos h4]
    dsimp only
    rw [pg_add (by decide) (by omega)]
/-- what the reference receives -/
theorem r_shoot_full {row : Nat → Int32} {p1 : Int32} (h17 : row 17 = nI 4) : mX8_shootIn row p1 = (-1, upd (upd (upd (upd (upd row 5 (row 5 + 1)) 13 (row 13 + 1)) 15 p1) 7 (row 7 + 1)) 14 (row 14 + 1)) := by
  unfold mX8_shootIn
  simp only [pl_lit5, pl_lit13, pl_lit15, pl_lit17, pl_lit7, pl_lit14]
  by_cases h : row 15 = -1
  · rw [if_pos h]
    simp (disch := omega) only [pu_ne, pu_eq']
    rw [if_pos (by rw [h17]; rfl)]
  · rw [if_neg h]
    simp (disch := omega) only [pu_ne, pu_eq']
    rw [if_pos (by rw [h17]; rfl)]
theorem r_shoot {row : Nat → Int32} {p1 : Int32} {W : Nat} (hW : W < 4) (h17 : row 17 = nI W) : mX8_shootIn row p1 = (row 5, upd (upd (upd (upd (upd (upd (upd (upd row 5 (row 5 + 1)) 13 (row 13 + 1)) 15 p1) (307 + 4 * W) (row 5)) (307 + 4 * W + 1) p1) (307 + 4 * W + 2) (psz (row 15) p1)) (307 + 4 * W + 3) (row 4)) 17 (nI (W + 1))) := by
  unfold mX8_shootIn psz
  simp only [pl_lit5, pl_lit13, pl_lit15, pl_lit17, pl_lit7, pl_lit14, pl_lit4]
  have e0 : mX8_waitAt (nI W) 0 = nI (307 + 4 * W) := pwA W 0
  have e1 : mX8_waitAt (nI W) 1 = nI (307 + 4 * W + 1) := pwA W 1
  have e2 : mX8_waitAt (nI W) 2 = nI (307 + 4 * W + 2) := pwA W 2
  have e3 : mX8_waitAt (nI W) 3 = nI (307 + 4 * W + 3) := pwA W 3
  have c0 : (nI (307 + 4 * W)).toNatClampNeg = 307 + 4 * W := nI_clamp (by omega)
  have c1 : (nI (307 + 4 * W + 1)).toNatClampNeg = 307 + 4 * W + 1 := nI_clamp (by omega)
  have c2 : (nI (307 + 4 * W + 2)).toNatClampNeg = 307 + 4 * W + 2 := nI_clamp (by omega)
  have c3 : (nI (307 + 4 * W + 3)).toNatClampNeg = 307 + 4 * W + 3 := nI_clamp (by omega)
  by_cases h : row 15 = -1
  · rw [if_pos h, if_pos h]
    simp (disch := omega) only [pu_ne, pu_eq', h17]
    rw [if_neg (pn4 hW)]
    simp (disch := omega) only [pu_ne, pu_eq', e0, e1, e2, e3, c0, c1, c2, c3, h17, nI_1]
  · rw [if_neg h, if_neg h]
    simp (disch := omega) only [pu_ne, pu_eq', h17]
    rw [if_neg (pn4 hW)]
    simp (disch := omega) only [pu_ne, pu_eq', e0, e1, e2, e3, c0, c1, c2, c3, h17, nI_1]
    unfold mX8_sizeOf
    rw [pd_same, pd_comm]
