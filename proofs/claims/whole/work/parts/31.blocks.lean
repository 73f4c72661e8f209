/-! PURE: the blocks, on both sides -/
def pcnt (h : Nat → Int32) (v : Int32) : Nat → Nat
  | 0 => 0
  | n + 1 => pcnt h v n + (if h n = v then 1 else 0)
theorem pcnt_le (h : Nat → Int32) (v : Int32) : ∀ n, pcnt h v n ≤ n
  | 0 => Nat.le_refl 0
  | n + 1 => by
    have := pcnt_le h v n
    simp only [pcnt]
    split <;> omega
theorem pcnt_out {h : Nat → Int32} {v x : Int32} {b : Nat} : ∀ {n : Nat}, n ≤ b → pcnt (upd h b x) v n = pcnt h v n
  | 0, _ => rfl
  | n + 1, q => by
    simp only [pcnt]
    rw [pcnt_out (n := n) (by omega), pu_ne (by omega)]
theorem pcnt_upd {h : Nat → Int32} {v x : Int32} {b : Nat} : ∀ {n : Nat}, b < n → pcnt (upd h b x) v n + (if h b = v then 1 else 0) = pcnt h v n + (if x = v then 1 else 0)
  | 0, q => absurd q (Nat.not_lt_zero b)
  | n + 1, q => by
    simp only [pcnt]
    rcases Nat.lt_or_ge b n with z | z
    · have ih := pcnt_upd (h := h) (v := v) (x := x) z
      rw [pu_ne (show n ≠ b by omega)]
      omega
    · have e : b = n := by omega
      subst e
      rw [pcnt_out (Nat.le_refl _), pu_eq]
      omega
theorem pcnt_0 {h : Nat → Int32} {v : Int32} : ∀ {n : Nat}, pcnt h v n = 0 ↔ ∀ j, j < n → h j ≠ v
  | 0 => ⟨fun _ j hj => absurd hj (Nat.not_lt_zero j), fun _ => rfl⟩
  | n + 1 => by
    have ih := pcnt_0 (h := h) (v := v) (n := n)
    simp only [pcnt]
    constructor
    · intro z j hj
      by_cases e : h n = v
      · rw [if_pos e] at z; omega
      · rw [if_neg e] at z
        rcases Nat.lt_or_ge j n with q | q
        · exact ih.mp (by omega) j q
        · have : j = n := by omega
          subst this; exact e
    · intro z
      rw [if_neg (z n (Nat.lt_succ_self n)), ih.mpr (fun j hj => z j (Nat.lt_succ_of_lt hj))]
theorem pcnt_cong {h g : Nat → Int32} {v : Int32} : ∀ {n : Nat}, (∀ j, j < n → h j = g j) → pcnt h v n = pcnt g v n
  | 0, _ => rfl
  | n + 1, q => by
    simp only [pcnt]
    rw [pcnt_cong (fun j hj => q j (Nat.lt_succ_of_lt hj)), q n (Nat.lt_succ_self n)]
/-- blocks in a row -/
def pem (row h : Nat → Int32) (C : Nat) : Nat → Int32 := fun j => if 19 ≤ j ∧ j < 19 + C then h (j - 19) else row j
theorem pem_in {row h : Nat → Int32} {C b : Nat} (hb : b < C) : pem row h C (19 + b) = h b := by
  unfold pem
  rw [if_pos (by omega)]
  congr 1; omega
theorem pem_out {row h : Nat → Int32} {C j : Nat} (hj : j < 19 ∨ 19 + C ≤ j) : pem row h C j = row j := by
  unfold pem
  rw [if_neg (by omega)]
theorem pem_upd {row h : Nat → Int32} {C b : Nat} {x : Int32} (hb : b < C) : upd (pem row h C) (19 + b) x = pem row (upd h b x) C := by
  funext j
  by_cases e : j = 19 + b
  · subst e
    rw [pu_eq, pem_in hb, pu_eq]
  · rw [pu_ne e]
    simp only [pem]
    by_cases e2 : 19 ≤ j ∧ j < 19 + C
    · rw [if_pos e2, if_pos e2, pu_ne (by omega)]
    · rw [if_neg e2, if_neg e2]
theorem pem_self {row h : Nat → Int32} {C : Nat} (e : ∀ b, b < C → h b = row (19 + b)) : pem row h C = row := by
  funext j
  unfold pem
  by_cases e2 : 19 ≤ j ∧ j < 19 + C
  · rw [if_pos e2, e _ (by omega)]; congr 1; omega
  · rw [if_neg e2]
theorem pem_pem {row g h : Nat → Int32} {C : Nat} : pem (pem row g C) h C = pem row h C := by
  funext j
  unfold pem
  by_cases e2 : 19 ≤ j ∧ j < 19 + C
  · rw [if_pos e2, if_pos e2]
  · rw [if_neg e2, if_neg e2, if_neg e2]
theorem pl_3 : (3 : Int32).toNatClampNeg = 3 := by decide
theorem p19 (b : Nat) : (19 : Int32) + nI b = nI (19 + b) := by
  show nI 19 + nI b = _
  exact nI_add 19 b
/-- the cleaning -/
def pcl : Nat → Nat → Nat → (Nat → Int32) → (Nat → Int32)
  | 0, _, _, h => h
  | n + 1, b, left, h => if left = 0 then h else if h b = -2 then pcl n (b + 1) (left - 1) (upd h b (-1)) else pcl n (b + 1) left h
theorem pcl_none : ∀ (n b left : Nat) (h : Nat → Int32), (∀ j, b ≤ j → j < b + n → h j ≠ -2) → pcl n b left h = h
  | 0, _, _, _, _ => rfl
  | n + 1, b, left, h, z => by
    simp only [pcl]
    split
    · rfl
    · rw [if_neg (z b (Nat.le_refl _) (by omega))]
      exact pcl_none n (b + 1) left h (fun j h1 h2 => z j (by omega) (by omega))
theorem pcl_left0 (n b : Nat) (h : Nat → Int32) : pcl n b 0 h = h := by
  cases n with
  | zero => rfl
  | succ n => simp [pcl]
theorem pcl_class {C : Nat} {count p0 : Int32} (hC : C ≤ 48) : ∀ (k b left : Nat) (h : Nat → Int32), b ≤ C → 48 < b + k → left < 1000 → (∀ j, j < b → h j ≠ -2) →
    mX0_clean_L4 count p0 k (nI left) (nI b) (nI (pcnt h (-1) C)) (nI (pcnt h (-2) C)) h = (nI (pcnt (pcl (C - b) b left h) (-1) C), nI (pcnt (pcl (C - b) b left h) (-2) C), pcl (C - b) b left h) := by
  intro k
  induction k with
  | zero => intro b left h h1 h2; omega
  | succ k ih =>
    intro b left h h1 h2 hl h3
    rw [mX0_clean_L4_s, mX0_clean_S4]
    have c1 := pcnt_le h (-1) C
    have c2 := pcnt_le h (-2) C
    by_cases hb : b = C
    · subst hb
      rw [Nat.sub_self]
      have e : pcnt h (-2) b = 0 := pcnt_0.mpr h3
      simp only [pcl, e]
      rw [if_pos (show nI 0 ≤ 0 by decide)]
      split
      · rfl
      · split <;> rfl
    · have hlt : b < C := by omega
      rw [if_neg (show ¬ (48 : Int32) ≤ nI b from nI_ge (show b < 48 by omega) (by decide))]
      by_cases h0 : left = 0
      · subst h0
        rw [if_pos (show nI 0 ≤ 0 by decide), pcl_left0]
      · rw [if_neg (nI_nle (by omega) (by omega))]
        by_cases h5 : pcnt h (-2) C = 0
        · rw [h5, if_pos (show nI 0 ≤ 0 by decide), pcl_none _ _ _ _ (fun j q1 q2 => pcnt_0.mp h5 j (by omega)), h5]
        · rw [if_neg (nI_nle (by omega) (by omega)), nI_clamp (by omega)]
          obtain ⟨n, hn⟩ : ∃ n, C - b = n + 1 := ⟨C - b - 1, by omega⟩
          have hn2 : C - (b + 1) = n := by omega
          rw [hn]
          simp only [pcl, if_neg h0]
          by_cases h6 : h b = -2
          · rw [if_pos h6, if_pos h6]
            have u1 := pcnt_upd (h := h) (v := -1) (x := -1) hlt
            have u2 := pcnt_upd (h := h) (v := -2) (x := -1) hlt
            rw [h6, if_neg (by decide), if_pos rfl] at u1
            rw [h6, if_pos rfl, if_neg (by decide)] at u2
            have := ih (b + 1) (left - 1) (upd h b (-1)) (by omega) (by omega) (by omega) (fun j hj => by
              by_cases e : j = b
              · subst e; rw [pu_eq]; decide
              · rw [pu_ne e]; exact h3 j (by omega))
            rw [hn2] at this
            rw [← this]
            have e1 : nI left + (-1) = nI (left - 1) := by
              obtain ⟨z, rfl⟩ : ∃ z, left = z + 1 := ⟨left - 1, by omega⟩
              exact pk_m1 z
            have e2 : nI (pcnt h (-1) C) + 1 = nI (pcnt (upd h b (-1)) (-1) C) := by rw [nI_1]; congr 1; omega
            have e3 : nI (pcnt h (-2) C) - 1 = nI (pcnt (upd h b (-1)) (-2) C) := by
              show _ - nI 1 = _
              rw [pk_sub (by omega)]; congr 1; omega
            rw [e1, e2, e3, nI_1]
          · rw [if_neg h6, if_neg h6, nI_1]
            have := ih (b + 1) left h (by omega) (by omega) hl (fun j hj => by
              by_cases e : j = b
              · subst e; exact h6
              · exact h3 j (by omega))
            rw [hn2] at this
            exact this
theorem pcl_ref {C : Nat} {row : Nat → Int32} (hC : C ≤ 48) (h3 : row 3 = nI C) : ∀ (k b left : Nat) (h : Nat → Int32), b ≤ C → 48 < b + k → left < 1000 → mX8_sweep_L6 k (nI left) (nI b) (pem row h C) = pem row (pcl (C - b) b left h) C := by
  intro k
  induction k with
  | zero => intro b left h h1 h2; omega
  | succ k ih =>
    intro b left h h1 h2 hl
    rw [mX8_sweep_L6_s, mX8_sweep_S6, pl_3, pem_out (by omega), h3]
    by_cases hb : b = C
    · subst hb
      rw [if_pos (nI_le (Nat.le_refl _) (by omega)), Nat.sub_self]
      simp only [pcl]
    · have hlt : b < C := by omega
      rw [if_neg (nI_ge hlt (by omega))]
      by_cases h0 : left = 0
      · subst h0
        rw [if_pos (show nI 0 ≤ 0 by decide), pcl_left0]
      · rw [if_neg (nI_nle (by omega) (by omega)), p19, nI_clamp (by omega), pem_in hlt]
        obtain ⟨n, hn⟩ : ∃ n, C - b = n + 1 := ⟨C - b - 1, by omega⟩
        have hn2 : C - (b + 1) = n := by omega
        rw [hn]
        simp only [pcl, if_neg h0]
        by_cases h6 : h b = -2
        · rw [if_pos h6, if_pos h6]
          have e1 : nI left + (-1) = nI (left - 1) := by
            obtain ⟨z, rfl⟩ : ∃ z, left = z + 1 := ⟨left - 1, by omega⟩
            exact pk_m1 z
          rw [pem_upd hlt, e1, nI_1, ih (b + 1) (left - 1) _ (by omega) (by omega) (by omega), hn2]
        · rw [if_neg h6, if_neg h6, nI_1, ih (b + 1) left h (by omega) (by omega) hl, hn2]
