/-! PURE: what the small models say, over natural places -/
theorem pz_1 : (-1 : Int32).toInt = -1 := by decide
theorem pz_2 : (-2 : Int32).toInt = -2 := by decide
theorem pu_eq {f : Nat → Int32} {k : Nat} {x : Int32} : upd f k x k = x := pk_us
theorem pu_ne {f : Nat → Int32} {k j : Nat} {x : Int32} (h : j ≠ k) : upd f k x j = f j := pk_un h
theorem pg_at {a w : Nat} : nI a * 7 + nI w = nI (7 * a + w) := by
  show nI a * nI 7 + nI w = _
  rw [pk_mul, nI_add, Nat.mul_comm]
theorem pg_get {N K a w : Nat} {fc : Nat → Int32} (hN : N < 1000) (hK : 7 * K ≤ N) (ha : a < K) (hw : w < 7) : mX1_get N fc (nI K) (nI a) (nI w) = fc (7 * a + w) := by
  unfold mX1_get
  rw [pg_at, if_neg (nI_pos (by omega)), if_neg (nI_ge ha (by omega)), if_neg (nI_pos (by omega)), if_neg (nI_ge (by omega) (by omega)), nI_clamp (by omega)]
theorem pg_out {N : Nat} {fc : Nat → Int32} {fl x c : Int32} (h : x.toInt < 0 ∨ fl.toInt ≤ x.toInt) : mX1_get N fc fl x c = -1 := by
  unfold mX1_get
  have l0 : (0 : Int32).toInt = 0 := by decide
  by_cases h1 : x < 0
  · rw [if_pos h1]
  · rw [if_neg h1, if_pos]
    rw [fc_lt] at h1
    rw [fc_le]
    omega
theorem pg_put {N K a w : Nat} {fc : Nat → Int32} {v : Int32} (hN : N < 1000) (hK : 7 * K ≤ N) (ha : a < K) (hw : w < 7) : mX1_put N fc (nI K) (nI a) (nI w) v = upd fc (7 * a + w) v := by
  unfold mX1_put
  rw [pg_at, if_neg (nI_pos (by omega)), if_neg (nI_ge ha (by omega)), if_neg (nI_pos (by omega)), if_neg (nI_ge (by omega) (by omega)), nI_clamp (by omega)]
theorem pg_put_out {N : Nat} {fc : Nat → Int32} {fl x c v : Int32} (h : x.toInt < 0 ∨ fl.toInt ≤ x.toInt) : mX1_put N fc fl x c v = fc := by
  unfold mX1_put
  have l0 : (0 : Int32).toInt = 0 := by decide
  by_cases h1 : x < 0
  · rw [if_pos h1]
  · rw [if_neg h1, if_pos]
    rw [fc_lt] at h1
    rw [fc_le]
    omega
theorem pg_add {N K : Nat} {fc : Nat → Int32} {p n s c : Int32} (hN : N < 1000) (hK : 7 * (K + 1) ≤ N) : mX1_add N fc (nI K) p n s c = (nI (K + 1), upd (upd (upd (upd fc (7 * K) p) (7 * K + 1) n) (7 * K + 2) s) (7 * K + 3) c) := by
  unfold mX1_add
  dsimp only
  rw [nI_1, show (0 : Int32) = nI 0 from rfl, show (1 : Int32) = nI 1 from rfl, show (2 : Int32) = nI 2 from rfl, show (3 : Int32) = nI 3 from rfl]
  rw [pg_put hN hK (by omega) (by omega), pg_put hN hK (by omega) (by omega), pg_put hN hK (by omega) (by omega), pg_put hN hK (by omega) (by omega)]
  rfl
theorem pg_has {K d : Nat} (hK : K < 2147483648) (hd : d < K) : mX1_has (nI K) (nI d) = 1 := by
  unfold mX1_has
  rw [if_neg (nI_pos (by omega)), if_neg (nI_ge hd hK)]
theorem pg_has0 {fl x : Int32} (h : x.toInt < 0 ∨ fl.toInt ≤ x.toInt) : mX1_has fl x = 0 := by
  unfold mX1_has
  have l0 : (0 : Int32).toInt = 0 := by decide
  by_cases h1 : x < 0
  · rw [if_pos h1]
  · rw [if_neg h1, if_pos]
    rw [fc_lt] at h1
    rw [fc_le]
    omega
theorem pg_remove {N K d : Nat} {fc : Nat → Int32} (hN : N < 1000) (hK : 7 * K ≤ N) (hd : d < K) : mX1_remove N fc (nI K) (nI d) = (nI (K - 1), va_cpy fc fc (7 * (d + 1)) (7 * d) (7 * K - 7 * (d + 1))) := by
  unfold mX1_remove
  dsimp only
  rw [pg_has (by omega) hd, if_neg (by decide)]
  have e1 : (nI d + 1) * 7 = nI (7 * (d + 1)) := by
    rw [nI_1]; show nI (d + 1) * nI 7 = _; rw [pk_mul, Nat.mul_comm]
  have e2 : nI K * 7 = nI (7 * K) := by show nI K * nI 7 = _; rw [pk_mul, Nat.mul_comm]
  have e3 : nI (7 * (d + 1)) - 7 = nI (7 * d) := by
    show _ - nI 7 = _
    rw [pk_sub (by omega)]; congr 1
  rw [e1, e2, e3, pk_sub (by omega), if_neg (fun h => by have := (nI_ltI (by omega) (by omega)).mp h; omega), nI_clamp (by omega), nI_clamp (by omega), nI_clamp (by omega)]
  congr 1
  show nI K - nI 1 = _
  rw [pk_sub (by omega)]
theorem psh7 {f : Nat → Int32} {d K i w : Nat} (hw : w < 7) (hi : i + 1 < K) (hd : d < K) : va_cpy f f (7 * (d + 1)) (7 * d) (7 * K - 7 * (d + 1)) (7 * i + w) = if i < d then f (7 * i + w) else f (7 * (i + 1) + w) := by
  by_cases h : i < d
  · rw [if_pos h, pk_cpy_out (by omega)]
  · rw [if_neg h, pk_cpy_in (by omega) (by omega)]; congr 1; omega
theorem psh5 {f : Nat → Int32} {d K i w : Nat} (hw : w < 5) (hi : i + 1 < K) (hd : d < K) : va_cpy f f (67 + 5 * (d + 1)) (67 + 5 * d) (5 * (K - 1 - d)) (67 + 5 * i + w) = if i < d then f (67 + 5 * i + w) else f (67 + 5 * (i + 1) + w) := by
  by_cases h : i < d
  · rw [if_pos h, pk_cpy_out (by omega)]
  · rw [if_neg h, pk_cpy_in (by omega) (by omega)]; congr 1; omega
/-! the difference of two pictures -/
theorem pd_same (a b : Int32) : mX8_difference a b = mX7_difference a b := rfl
theorem fc_neg {x : Int32} (h : -2147483648 < x.toInt) : (-x).toInt = -x.toInt := by
  have h2 := Int32.toInt_lt x
  rw [Int32.toInt_neg]
  apply Int.bmod_eq_of_le <;> omega
theorem pd_neg {x y : Int32} (hx : -10 < x.toInt ∧ x.toInt < 10) (hy : -10 < y.toInt ∧ y.toInt < 10) : (if 0 ≤ x - y then x - y else -(x - y)) = (if 0 ≤ y - x then y - x else -(y - x)) := by
  have a1 := fc_sub (x := x) (y := y) (by omega) (by omega)
  have a2 := fc_sub (x := y) (y := x) (by omega) (by omega)
  have l0 : (0 : Int32).toInt = 0 := by decide
  have e1 : -(x - y) = y - x := by
    rw [fc_eq, a2, fc_neg (by omega), a1]; omega
  have e2 : -(y - x) = x - y := by
    rw [fc_eq, a1, fc_neg (by omega), a2]; omega
  by_cases h1 : 0 ≤ x - y
  · rw [if_pos h1]
    by_cases h2 : 0 ≤ y - x
    · rw [if_pos h2]
      rw [fc_le] at h1 h2
      rw [fc_eq]; omega
    · rw [if_neg h2, e2]
  · rw [if_neg h1, e1]
    rw [if_pos]
    rw [fc_le] at h1 ⊢
    omega
theorem pd_S (p q s a b c : Int32) (ih : Int32 → Int32 → Int32 → Int32 → Int32) : mX7_difference_S10 p q ih s a b c = if 6 ≤ c then s else ih (s + (if 0 ≤ ((a - a / 10 * 10) - (b - b / 10 * 10)) then (a - a / 10 * 10) - (b - b / 10 * 10) else -((a - a / 10 * 10) - (b - b / 10 * 10)))) (a / 10) (b / 10) (c + 1) := by
  unfold mX7_difference_S10
  split
  · rfl
  · split <;> rfl
theorem pd_comm_L (p q p' q' : Int32) : ∀ (k : Nat) (s a b c : Int32), mX7_difference_L10 p q k s a b c = mX7_difference_L10 p' q' k s b a c := by
  intro k
  induction k with
  | zero => intro s a b c; rfl
  | succ k ih =>
    intro s a b c
    rw [mX7_difference_L10_s, mX7_difference_L10_s, pd_S, pd_S]
    have h1 := fc_remk_rng (x := a) (k := 10) (n := 10) (by decide) (by decide) (by decide)
    have h2 := fc_remk_rng (x := b) (k := 10) (n := 10) (by decide) (by decide) (by decide)
    rw [pd_neg h1 h2]
    split
    · rfl
    · exact ih _ _ _ _
theorem pd_comm (a b : Int32) : mX7_difference a b = mX7_difference b a := pd_comm_L a b b a 7 0 a b 0
theorem pd_rng_L (p q : Int32) : ∀ (k i : Nat) (s a b : Int32), i ≤ 6 → 6 < i + k → 0 ≤ a.toInt → 0 ≤ b.toInt → 0 ≤ s.toInt ∧ s.toInt ≤ 9 * i → 0 ≤ (mX7_difference_L10 p q k s a b (nI i)).toInt ∧ (mX7_difference_L10 p q k s a b (nI i)).toInt ≤ 54 := by
  intro k
  induction k with
  | zero => intro i s a b h1 h2; omega
  | succ k ih =>
    intro i s a b h1 h2 ha hb hs
    rw [mX7_difference_L10_s, pd_S]
    have l6 : (6 : Int32).toInt = 6 := by decide
    have l0 : (0 : Int32).toInt = 0 := by decide
    have li := fc_nI (n := i) (by omega)
    by_cases hc : 6 ≤ nI i
    · rw [if_pos hc]
      rw [fc_le] at hc
      omega
    · rw [if_neg hc, nI_1]
      rw [fc_le] at hc
      have m1 := fc_remk (x := a) (k := 10) (n := 10) (by decide) (by decide) (by decide)
      have m2 := fc_remk (x := b) (k := 10) (n := 10) (by decide) (by decide) (by decide)
      rw [Int.tmod_eq_emod_of_nonneg ha] at m1
      rw [Int.tmod_eq_emod_of_nonneg hb] at m2
      have d1 := fc_divk (x := a) (k := 10) (n := 10) (by decide) (by decide)
      have d2 := fc_divk (x := b) (k := 10) (n := 10) (by decide) (by decide)
      rw [Int.tdiv_eq_ediv_of_nonneg ha] at d1
      rw [Int.tdiv_eq_ediv_of_nonneg hb] at d2
      generalize a - a / 10 * 10 = x at m1 ⊢
      generalize b - b / 10 * 10 = y at m2 ⊢
      have a1 := fc_sub (x := x) (y := y) (by omega) (by omega)
      have key : 0 ≤ (if 0 ≤ x - y then x - y else -(x - y)).toInt ∧ (if 0 ≤ x - y then x - y else -(x - y)).toInt ≤ 9 := by
        by_cases h : 0 ≤ x - y
        · rw [if_pos h]
          rw [fc_le] at h
          omega
        · rw [if_neg h]
          rw [fc_le] at h
          rw [fc_neg (by omega)]
          omega
      generalize (if 0 ≤ x - y then x - y else -(x - y)) = z at key ⊢
      have a3 := fc_add (x := s) (y := z) (by omega) (by omega)
      exact ih (i + 1) _ _ _ (by omega) (by omega) (by omega) (by omega) (by omega)
theorem pd_rng {a b : Int32} (ha : 0 ≤ a.toInt) (hb : 0 ≤ b.toInt) : 0 ≤ (mX7_difference a b).toInt ∧ (mX7_difference a b).toInt ≤ 54 :=
  pd_rng_L a b 7 0 0 a b (by omega) (by omega) ha hb (by decide)
/-- a picture's size behind another -/
theorem pd_size {a b : Int32} (ha : 0 ≤ a.toInt) (hb : 0 ≤ b.toInt) : 1 ≤ (1 + mX7_difference a b / 9).toInt ∧ (1 + mX7_difference a b / 9).toInt ≤ 7 := by
  have h := pd_rng ha hb
  have d := fc_divk (x := mX7_difference a b) (k := 9) (n := 9) (by decide) (by decide)
  rw [Int.tdiv_eq_ediv_of_nonneg h.1] at d
  have a1 := fc_kadd (x := mX7_difference a b / 9) (k := 1) (n := 1) (by decide) (by omega) (by omega)
  omega
