/-! PURE: the first that waits is stored -/
theorem RK47 {K W C : Nat} {ca : Int32} {holds kc row : Nat → Int32} (hk : RKe K C holds kc row) (hn : RNu K W C ca holds row) (hf : 0 < pcnt holds (-1) C) : K < C := by
  obtain ⟨x, hx⟩ := plow.ex hf
  have : ∀ i, ∃ m, i < K → plow holds (row (67 + 5 * i)) C m := fun i => by
    by_cases q : i < K
    · obtain ⟨-, -, -, n, m, -, -, -, -, h8, -⟩ := hk i q
      exact ⟨m, fun _ => h8⟩
    · exact ⟨0, fun z => absurd z q⟩
  obtain ⟨f, hf⟩ := Classical.axiomOfChoice this
  have hp : ∀ i, i < K → pnum row K i = row (67 + 5 * i) := fun i hi => by unfold pnum; rw [if_pos hi]
  have := ppig C (K + 1) (fun i => if i < K then f i else x) (fun i hi => by
    by_cases q : i < K
    · rw [if_pos q]; exact (hf i q).1
    · rw [if_neg q]; exact hx.1) (fun i j hij hj => by
    rw [if_pos (show i < K by omega)]
    have a1 := (hf i (by omega)).2.1
    by_cases q : j < K
    · rw [if_pos q]
      intro e
      have a2 := (hf j q).2.1
      rw [e, a2] at a1
      have := hn.1 i j hij (by omega)
      rw [hp i (by omega), hp j q, a1] at this
      omega
    · rw [if_neg q]
      intro e
      rw [e, hx.2.1] at a1
      have := (hn.2.1 i (by omega)).1
      rw [hp i (by omega), ← a1, pz_1] at this
      omega)
  omega
/-- what the reference's storing leaves, behind the blocks -/
noncomputable def pF (r : Nat → Int32) (K W : Nat) : Nat → Int32 := va_cpy (upd (upd (upd r 16 (nI (K + 1))) 12 (r 12 + 1)) 17 (nI (W - 1))) (upd (upd (upd r 16 (nI (K + 1))) 12 (r 12 + 1)) 17 (nI (W - 1))) 311 307 (4 * (W - 1))
theorem pF_L {C K W : Nat} {row r : Nat → Int32} (hC : C ≤ 48) (hK : K < 48) (hW : 1 ≤ W ∧ W ≤ 4) (h0 : row 16 = nI K) (h3 : r 3 = nI C) (h16 : r 16 = nI K) (h17 : r 17 = nI W) : ∀ (k b left : Nat) (h : Nat → Int32), b ≤ C → C < b + k → left < 1000 →
    mX8_store_L71 row k (nI left) (nI b) (pem r h C) = pF (pem r (ptk (C - b) b left (r (67 + 5 * K)) h) C) K W := by
  have fin : ∀ h : Nat → Int32, mX8_copy_same 357 (upd (upd (upd (pem r h C) 16 (pem r h C 16 + 1)) 12 (pem r h C 12 + 1)) 17 (pem r h C 17 - 1)) (mX8_waitAt 1 0) (mX8_waitAt 0 0) (4 * (pem r h C 17 - 1)) = pF (pem r h C) K W := by
    intro h
    have e1 : mX8_waitAt 1 0 = nI 311 := pwA 1 0
    have e2 : mX8_waitAt 0 0 = nI 307 := pwA 0 0
    have e3 : nI W - 1 = nI (W - 1) := pk_sub (a := W) (b := 1) (by omega)
    have e4 : (4 : Int32) * nI (W - 1) = nI (4 * (W - 1)) := pk_mul 4 _
    rw [e1, e2]
    simp (disch := omega) only [pem_out, h16, h17, e3, e4, nI_1]
    rw [pcs (by omega) (by omega) (by omega) (Or.inl (by omega))]
    unfold pF
    simp (disch := omega) only [pem_out]
  intro k
  induction k with
  | zero => intro b left h h1 h2; omega
  | succ k ih =>
    intro b left h h1 h2 hl
    rw [mX8_store_L71_s, mX8_store_S71, pl_3, pem_out (by omega), h3]
    have stop : ∀ h : Nat → Int32, (let row_12 := upd (pem r h C) (16 : Int32).toNatClampNeg ((pem r h C (16 : Int32).toNatClampNeg) + 1)
        let row_13 := upd row_12 (12 : Int32).toNatClampNeg ((row_12 (12 : Int32).toNatClampNeg) + 1)
        let row_14 := upd row_13 (17 : Int32).toNatClampNeg ((row_13 (17 : Int32).toNatClampNeg) - 1)
        let r_15 := mX8_waitAt 1 0
        let r_16 := mX8_waitAt 0 0
        let f_17 := mX8_copy_same 357 row_14 r_15 r_16 (4 * (row_14 (17 : Int32).toNatClampNeg))
        f_17) = pF (pem r h C) K W := by
      intro h
      rw [← fin h]
      simp only [pl_lit16, pl_lit12, pl_lit17]
      simp (disch := omega) only [pu_ne, pu_eq']
    by_cases hb : b = C
    · subst hb
      rw [if_pos (nI_le (Nat.le_refl _) (by omega)), Nat.sub_self]
      simp only [ptk]
      exact stop h
    · have hlt : b < C := by omega
      rw [if_neg (nI_ge hlt (by omega))]
      by_cases h0' : left = 0
      · subst h0'
        rw [if_pos (show nI 0 ≤ 0 by decide), ptk_0]
        exact stop h
      · rw [if_neg (nI_nle (by omega) (by omega)), p19, nI_clamp (by omega), pem_in hlt]
        obtain ⟨n, hn⟩ : ∃ n, C - b = n + 1 := ⟨C - b - 1, by omega⟩
        have hn2 : C - (b + 1) = n := by omega
        rw [hn]
        simp only [ptk, if_neg h0']
        by_cases h6 : h b = -1
        · rw [if_pos h6, if_pos h6]
          have e0 : mX8_keptAt (row (16 : Int32).toNatClampNeg) 0 = nI (67 + 5 * K) := by rw [pl_lit16, h0]; exact pkA K 0
          have e1 : nI left + (-1) = nI (left - 1) := by
            obtain ⟨z, rfl⟩ : ∃ z, left = z + 1 := ⟨left - 1, by omega⟩
            exact pk_m1 z
          rw [e0, nI_clamp (by omega), pem_out (show 67 + 5 * K < 19 ∨ 19 + C ≤ 67 + 5 * K by omega), pem_upd hlt, e1, nI_1, ih (b + 1) (left - 1) _ (by omega) (by omega) (by omega), hn2]
        · rw [if_neg h6, if_neg h6, nI_1, ih (b + 1) left h (by omega) (by omega) hl, hn2]
/-- .. and ahead of the blocks -/
noncomputable def pG (row : Nat → Int32) (K : Nat) : Nat → Int32 := upd (upd (va_cpy row row 307 (67 + 5 * K) 4) (67 + 5 * K + 4) (row 4 - row 310)) 8 (if row 4 - row 310 ≤ 0 then row 8 else row 8 + 1)
theorem r_store {C K W n : Nat} {row holds : Nat → Int32} (hC : C ≤ 48) (hK : K < 48) (hW : 1 ≤ W ∧ W ≤ 4) (h3 : row 3 = nI C) (h16 : row 16 = nI K) (h17 : row 17 = nI W) (h309 : row 309 = nI n) (hn : n < 1000) (hBl : ∀ b, b < C → holds b = row (19 + b)) :
    mX8_store row = pF (pem (pG row K) (ptk C 0 n (row 307) holds) C) K W := by
  unfold mX8_store
  have e1 : mX8_waitAt 0 0 = nI 307 := pwA 0 0
  have e2 : mX8_keptAt (nI K) 0 = nI (67 + 5 * K) := pkA K 0
  have e3 : mX8_keptAt (nI K) 4 = nI (67 + 5 * K + 4) := pkA K 4
  have e4 : mX8_waitAt 0 3 = nI 310 := pwA 0 3
  have e5 : mX8_keptAt (nI K) 2 = nI (67 + 5 * K + 2) := pkA K 2
  have e6 : (4 : Int32) = nI 4 := rfl
  have c1 : (nI (67 + 5 * K + 4)).toNatClampNeg = 67 + 5 * K + 4 := nI_clamp (by omega)
  have c2 : (nI 310).toNatClampNeg = 310 := nI_clamp (by omega)
  have c3 : (nI (67 + 5 * K + 2)).toNatClampNeg = 67 + 5 * K + 2 := nI_clamp (by omega)
  have e7 : mX8_copy_same 357 row (nI 307) (nI (67 + 5 * K)) 4 = va_cpy row row 307 (67 + 5 * K) 4 := pcs (a := 307) (b := 67 + 5 * K) (n := 4) (by omega) (by omega) (by omega) (Or.inl (by omega))
  simp only [pl_lit16, pl_lit4, pl_lit8, h16, e1, e2, e3, e4, e5, e7, c1, c2, c3]
  simp (disch := omega) only [pu_ne, pu_eq', pk_cpy_out, p_add0]
  -- both ways go on alike
  have hG : ∀ (r : Nat → Int32) (x : Int32), r = pG row K → x = nI n → mX8_store_L71 row 49 x 0 r = pF (pem (pG row K) (ptk C 0 n (row 307) holds) C) K W := by
    intro r x hr hx
    have q3 : r 3 = nI C := by rw [hr]; unfold pG; simp (disch := omega) only [pu_ne, pk_cpy_out]; exact h3
    have q16 : r 16 = nI K := by rw [hr]; unfold pG; simp (disch := omega) only [pu_ne, pk_cpy_out]; exact h16
    have q17 : r 17 = nI W := by rw [hr]; unfold pG; simp (disch := omega) only [pu_ne, pk_cpy_out]; exact h17
    have qn : r (67 + 5 * K) = row 307 := by rw [hr]; unfold pG; simp (disch := omega) only [pu_ne]; rw [pk_cpy_in (by omega) (by omega)]; congr 1; omega
    have qb : ∀ b, b < C → holds b = r (19 + b) := by intro b hb; rw [hr]; unfold pG; simp (disch := omega) only [pu_ne, pk_cpy_out]; exact hBl b hb
    have := pF_L hC hK hW h16 q3 q16 q17 49 0 n holds (Nat.zero_le _) (by omega) hn
    rw [pem_self qb, Nat.sub_zero, qn] at this
    rw [hx, ← hr]
    exact this
  have hx : va_cpy row row 307 (67 + 5 * K) 4 (67 + 5 * K + 2) = nI n := by rw [pk_cpy_in (by omega) (by omega), ← h309]; congr 1; omega
  by_cases c : row 4 - row 310 ≤ 0
  · rw [if_pos c]
    refine hG _ _ ?_ hx
    unfold pG
    rw [if_pos c]
  · rw [if_neg c]
    refine hG _ _ ?_ hx
    unfold pG
    rw [if_neg c]
