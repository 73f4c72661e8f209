/-! PURE: the reference's small rows -/
theorem pkA (i w : Nat) : mX8_keptAt (nI i) (nI w) = nI (67 + 5 * i + w) := by
  unfold mX8_keptAt
  show nI 67 + nI 5 * nI i + nI w = _
  rw [pk_mul, nI_add, nI_add]
theorem pwA (i w : Nat) : mX8_waitAt (nI i) (nI w) = nI (307 + 4 * i + w) := by
  unfold mX8_waitAt
  show nI 307 + nI 4 * nI i + nI w = _
  rw [pk_mul, nI_add, nI_add]
theorem pu_eq' {f : Nat → Int32} {k j : Nat} {x : Int32} (h : j = k) : upd f k x j = x := by subst h; exact pk_us
theorem pcs_L {n0 a b n : Nat} {f0 : Nat → Int32} (hn : n ≤ 5000) (ha : a < 10000) (hb : b < 10000) (hd : b ≤ a ∨ a + n ≤ b) : ∀ (k x : Nat) (f : Nat → Int32), x ≤ n → n < x + k → (∀ j, f j = if b ≤ j ∧ j < b + x then f0 (a + (j - b)) else f0 j) →
    ∀ j, mX8_copy_same_L3 n0 (nI a) (nI b) (nI n) k (nI x) f j = if b ≤ j ∧ j < b + n then f0 (a + (j - b)) else f0 j := by
  intro k
  induction k with
  | zero => intro x f h1 h2; omega
  | succ k ih =>
    intro x f h1 h2 hf
    rw [mX8_copy_same_L3_s, mX8_copy_same_S3]
    by_cases hx : x = n
    · subst hx
      rw [if_pos (nI_le (Nat.le_refl _) (by omega))]
      exact hf
    · rw [if_neg (nI_ge (show x < n by omega) (by omega))]
      rw [nI_add, nI_add, nI_clamp (by omega), nI_clamp (by omega), nI_1]
      refine ih (x + 1) _ (by omega) (by omega) (fun j => ?_)
      have e0 : f (a + x) = f0 (a + x) := by rw [hf, if_neg (by omega)]
      by_cases e : j = b + x
      · subst e
        rw [pu_eq, e0, if_pos (by omega)]
        congr 1; omega
      · rw [pu_ne e, hf]
        by_cases e2 : b ≤ j ∧ j < b + x
        · rw [if_pos e2, if_pos (by omega)]
        · rw [if_neg e2, if_neg (by omega)]
theorem pcs {n0 a b n : Nat} {f : Nat → Int32} (hn : n ≤ 5000) (ha : a < 10000) (hb : b < 10000) (hd : b ≤ a ∨ a + n ≤ b) : mX8_copy_same n0 f (nI a) (nI b) (nI n) = va_cpy f f a b n := by
  funext j
  unfold mX8_copy_same
  exact pcs_L hn ha hb hd 5001 0 f (by omega) (by omega) (fun j => by rw [if_neg (by omega)]) j
theorem pcp_L {n0 n1 a b n : Nat} {f g0 : Nat → Int32} (hn : n ≤ 5000) (ha : a < 10000) (hb : b < 10000) : ∀ (k x : Nat) (g : Nat → Int32), x ≤ n → n < x + k → (∀ j, g j = if b ≤ j ∧ j < b + x then f (a + (j - b)) else g0 j) →
    ∀ j, mX8_copy_L3 n0 f n1 (nI a) (nI b) (nI n) k (nI x) g j = if b ≤ j ∧ j < b + n then f (a + (j - b)) else g0 j := by
  intro k
  induction k with
  | zero => intro x f h1 h2; omega
  | succ k ih =>
    intro x g h1 h2 hf
    rw [mX8_copy_L3_s, mX8_copy_S3]
    by_cases hx : x = n
    · subst hx
      rw [if_pos (nI_le (Nat.le_refl _) (by omega))]
      exact hf
    · rw [if_neg (nI_ge (show x < n by omega) (by omega))]
      rw [nI_add, nI_add, nI_clamp (by omega), nI_clamp (by omega), nI_1]
      refine ih (x + 1) _ (by omega) (by omega) (fun j => ?_)
      by_cases e : j = b + x
      · subst e
        rw [pu_eq, if_pos (by omega)]
        congr 1; omega
      · rw [pu_ne e, hf]
        by_cases e2 : b ≤ j ∧ j < b + x
        · rw [if_pos e2, if_pos (by omega)]
        · rw [if_neg e2, if_neg (by omega)]
theorem pcp {n0 n1 a b n : Nat} {f g : Nat → Int32} (hn : n ≤ 5000) (ha : a < 10000) (hb : b < 10000) : mX8_copy n0 f n1 g (nI a) (nI b) (nI n) = va_cpy f g a b n := by
  funext j
  unfold mX8_copy
  exact pcp_L hn ha hb 5001 0 g (by omega) (by omega) (fun j => by rw [if_neg (by omega)]) j
/-- counting -/
theorem pct_L {C : Nat} {row : Nat → Int32} {v : Int32} (hC : C ≤ 48) (h3 : row 3 = nI C) : ∀ (k b : Nat), b ≤ C → C < b + k → mX8_count_L4 row v k (nI (pcnt (fun j => row (19 + j)) v b)) (nI b) = nI (pcnt (fun j => row (19 + j)) v C) := by
  intro k
  induction k with
  | zero => intro b h1 h2; omega
  | succ k ih =>
    intro b h1 h2
    rw [mX8_count_L4_s, mX8_count_S4, pl_3, h3]
    by_cases hb : b = C
    · subst hb
      rw [if_pos (nI_le (Nat.le_refl _) (by omega))]
    · rw [if_neg (nI_ge (show b < C by omega) (by omega)), p19, nI_clamp (by omega), nI_1 b]
      have := ih (b + 1) (by omega) (by omega)
      simp only [pcnt] at this
      by_cases e : row (19 + b) = v
      · rw [if_pos e]
        rw [if_pos e] at this
        rw [nI_1]
        exact this
      · rw [if_neg e]
        rw [if_neg e] at this
        rw [show nI (pcnt (fun j => row (19 + j)) v b) + 0 = nI (pcnt (fun j => row (19 + j)) v b + 0) from nI_add _ 0]
        exact this
theorem pct {C : Nat} {row : Nat → Int32} {v : Int32} (hC : C ≤ 48) (h3 : row 3 = nI C) : mX8_count row v = nI (pcnt (fun j => row (19 + j)) v C) :=
  pct_L hC h3 49 0 (by omega) (by omega)
/-! places of a value -/
def pat (h g : Nat → Int32) (v : Int32) (C : Nat) : Prop := ∀ b, b < C → (h b = v ↔ g b = v)
theorem pat.cnt {h g : Nat → Int32} {v : Int32} : ∀ {C : Nat}, pat h g v C → pcnt h v C = pcnt g v C
  | 0, _ => rfl
  | n + 1, q => by
    simp only [pcnt]
    rw [pat.cnt (fun b hb => q b (Nat.lt_succ_of_lt hb))]
    have := q n (Nat.lt_succ_self n)
    by_cases e : h n = v
    · rw [if_pos e, if_pos (this.mp e)]
    · rw [if_neg e, if_neg (fun z => e (this.mpr z))]
/-- the lowest place of a value -/
def plow (h : Nat → Int32) (v : Int32) (C m : Nat) : Prop := m < C ∧ h m = v ∧ ∀ j, j < m → h j ≠ v
theorem plow.pat {h g : Nat → Int32} {v : Int32} {C m : Nat} (q : plow h v C m) (p : pat h g v C) : plow g v C m :=
  ⟨q.1, (p m q.1).mp q.2.1, fun j hj z => q.2.2 j hj ((p j (Nat.lt_trans hj q.1)).mpr z)⟩
theorem plow.one {h : Nat → Int32} {v : Int32} {C m n : Nat} (q : plow h v C m) (p : plow h v C n) : m = n := by
  rcases Nat.lt_trichotomy m n with z | z | z
  · exact absurd q.2.1 (p.2.2 m z)
  · exact z
  · exact absurd p.2.1 (q.2.2 n z)
theorem plow.ex {h : Nat → Int32} {v : Int32} {C : Nat} (p : 0 < pcnt h v C) : ∃ m, plow h v C m := by
  have : ∃ k, k < C ∧ h k = v := Classical.byContradiction fun z => by
    have : pcnt h v C = 0 := pcnt_0.mpr (fun j hj e => z ⟨j, hj, e⟩)
    omega
  obtain ⟨k, ⟨k1, k2⟩, k3⟩ := pk_least (fun k => k < C ∧ h k = v) this
  exact ⟨k, k1, k2, fun j hj e => k3 j hj ⟨by omega, e⟩⟩
/-- more places than pigeons -/
theorem ppig : ∀ (C K : Nat) (f : Nat → Nat), (∀ i, i < K → f i < C) → (∀ i j, i < j → j < K → f i ≠ f j) → K ≤ C
  | 0, K, f, h1, _ => by
    rcases Nat.eq_zero_or_pos K with z | z
    · omega
    · exact absurd (h1 0 z) (Nat.not_lt_zero _)
  | C + 1, K, f, h1, h2 => by
    by_cases e : ∃ i, i < K ∧ f i = C
    · obtain ⟨i, hi, e⟩ := e
      have := ppig C (K - 1) (fun j => if j < i then f j else f (j + 1)) (fun j hj => by
        by_cases q : j < i
        · rw [if_pos q]
          have := h1 j (by omega)
          have := h2 j i q hi
          omega
        · rw [if_neg q]
          have := h1 (j + 1) (by omega)
          have := h2 i (j + 1) (by omega) (by omega)
          omega) (fun a b hab hb => by
        by_cases q : b < i
        · rw [if_pos q, if_pos (show a < i by omega)]
          exact h2 a b hab (by omega)
        · rw [if_neg q]
          by_cases q2 : a < i
          · rw [if_pos q2]
            exact h2 a (b + 1) (by omega) (by omega)
          · rw [if_neg q2]
            exact h2 (a + 1) (b + 1) (by omega) (by omega))
      omega
    · have := ppig C K f (fun i hi => by
        have := h1 i hi
        have : f i ≠ C := fun z => e ⟨i, hi, z⟩
        omega) h2
      omega
