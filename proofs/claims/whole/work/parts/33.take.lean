/-! PURE: blocks taken and soiled -/
def ptk : Nat → Nat → Nat → Int32 → (Nat → Int32) → (Nat → Int32)
  | 0, _, _, _, h => h
  | n + 1, b, left, v, h => if left = 0 then h else if h b = -1 then ptk n (b + 1) (left - 1) v (upd h b v) else ptk n (b + 1) left v h
theorem ptk_0 (n b : Nat) (v : Int32) (h : Nat → Int32) : ptk n b 0 v h = h := by
  cases n with
  | zero => rfl
  | succ n => simp [ptk]
theorem pcnt_mono {h : Nat → Int32} {v : Int32} {a b : Nat} (q : a ≤ b) : pcnt h v a ≤ pcnt h v b := by
  induction b with
  | zero => have : a = 0 := by omega
            subst this; exact Nat.le_refl _
  | succ n ih =>
    rcases Nat.lt_or_ge n a with z | z
    · have : a = n + 1 := by omega
      subst this; exact Nat.le_refl _
    · have := ih z
      simp only [pcnt]; omega
/-- what the taking does -/
theorem ptk_out : ∀ (n b left : Nat) (v : Int32) (h : Nat → Int32) (j : Nat), j < b ∨ b + n ≤ j → ptk n b left v h j = h j
  | 0, _, _, _, _, _, _ => rfl
  | n + 1, b, left, v, h, j, q => by
    simp only [ptk]
    by_cases h0 : left = 0
    · rw [if_pos h0]
    · rw [if_neg h0]
      by_cases h1 : h b = -1
      · rw [if_pos h1, ptk_out n _ _ _ _ j (by omega), pu_ne (by omega)]
      · rw [if_neg h1, ptk_out n _ _ _ _ j (by omega)]
theorem ptk_one : ∀ (n b left : Nat) (v : Int32) (h : Nat → Int32) (j : Nat), ptk n b left v h j = h j ∨ (h j = -1 ∧ ptk n b left v h j = v)
  | 0, _, _, _, _, _ => Or.inl rfl
  | n + 1, b, left, v, h, j => by
    simp only [ptk]
    by_cases h0 : left = 0
    · rw [if_pos h0]; exact Or.inl rfl
    · rw [if_neg h0]
      by_cases h1 : h b = -1
      · rw [if_pos h1]
        by_cases e : j = b
        · subst e
          rw [ptk_out n _ _ _ _ j (by omega), pu_eq]
          exact Or.inr ⟨h1, rfl⟩
        · have := ptk_one n (b + 1) (left - 1) v (upd h b v) j
          rw [pu_ne e] at this
          exact this
      · rw [if_neg h1]
        exact ptk_one n (b + 1) left v h j
theorem ptk_pat {C n b left : Nat} {v w : Int32} {h : Nat → Int32} (h1 : w ≠ -1) (h2 : w ≠ v) : pat h (ptk n b left v h) w C := by
  intro j hj
  rcases ptk_one n b left v h j with e | ⟨e1, e2⟩
  · rw [e]
  · rw [e1, e2]
    exact ⟨fun z => absurd z.symm h1, fun z => absurd z.symm h2⟩
theorem ptk_cnt {C : Nat} {v : Int32} (hv : v ≠ -1) : ∀ (n b left : Nat) (h : Nat → Int32), b + n = C → left + pcnt h (-1) b ≤ pcnt h (-1) C →
    pcnt (ptk n b left v h) v C = pcnt h v C + left ∧ pcnt (ptk n b left v h) (-1) C + left = pcnt h (-1) C
  | 0, b, left, h, q, z => by
    have : b = C := by omega
    subst this
    have : left = 0 := by omega
    subst this
    exact ⟨rfl, rfl⟩
  | n + 1, b, left, h, q, z => by
    simp only [ptk]
    by_cases h0 : left = 0
    · rw [if_pos h0]; subst h0; exact ⟨rfl, rfl⟩
    · rw [if_neg h0]
      have hb : b < C := by omega
      by_cases h1 : h b = -1
      · rw [if_pos h1]
        have u1 := pcnt_upd (h := h) (v := v) (x := v) hb
        have u2 := pcnt_upd (h := h) (v := -1) (x := v) hb
        have u3 : pcnt (upd h b v) (-1) (b + 1) = pcnt h (-1) b := by
          simp only [pcnt]
          rw [pcnt_out (Nat.le_refl _), pu_eq, if_neg hv, Nat.add_zero]
        rw [h1, if_neg (fun e => hv e.symm), if_pos rfl] at u1
        rw [h1, if_pos rfl, if_neg hv] at u2
        have := ptk_cnt (C := C) hv n (b + 1) (left - 1) (upd h b v) (by omega) (by omega)
        omega
      · rw [if_neg h1]
        have u3 : pcnt h (-1) (b + 1) = pcnt h (-1) b := by
          simp only [pcnt]
          rw [if_neg h1, Nat.add_zero]
        exact ptk_cnt (C := C) hv n (b + 1) left h (by omega) (by omega)
/-- the class takes -/
theorem ptk_class {C : Nat} {dirty p1 v : Int32} (hC : C ≤ 48) (hv : v ≠ -1) : ∀ (k b left : Nat) (x : Int32) (h : Nat → Int32), b ≤ C → 48 < b + k → left < 1000 → left + pcnt h (-1) b ≤ pcnt h (-1) C →
    ((x = -1 ∧ ∀ j, j < b → h j ≠ v) ∨ ∃ m, x = nI m ∧ m < b ∧ h m = v ∧ ∀ j, j < m → h j ≠ v) → (∀ j, b ≤ j → j < C → h j ≠ v) →
    ∃ y, mX0_take_L8 (nI C) dirty v p1 k x (nI left) (nI b) (nI (pcnt h (-1) C)) h = (y, nI (pcnt (ptk (C - b) b left v h) (-1) C), ptk (C - b) b left v h) ∧
      ((y = -1 ∧ ∀ j, j < C → ptk (C - b) b left v h j ≠ v) ∨ ∃ m, y = nI m ∧ plow (ptk (C - b) b left v h) v C m) := by
  intro k
  induction k with
  | zero => intro b left x h h1 h2; omega
  | succ k ih =>
    intro b left x h h1 h2 hl hle hx hn
    rw [mX0_take_L8_s, mX0_take_S8]
    have c1 := pcnt_le h (-1) C
    have stop : left = 0 → ∃ y, (x, nI (pcnt h (-1) C), h) = (y, nI (pcnt (ptk (C - b) b left v h) (-1) C), ptk (C - b) b left v h) ∧
      ((y = -1 ∧ ∀ j, j < C → ptk (C - b) b left v h j ≠ v) ∨ ∃ m, y = nI m ∧ plow (ptk (C - b) b left v h) v C m) := by
      intro e
      subst e
      rw [ptk_0]
      refine ⟨x, rfl, ?_⟩
      rcases hx with ⟨e1, e2⟩ | ⟨m, e1, e2, e3, e4⟩
      · refine Or.inl ⟨e1, fun j hj => ?_⟩
        rcases Nat.lt_or_ge j b with z | z
        · exact e2 j z
        · exact hn j z hj
      · exact Or.inr ⟨m, e1, by omega, e3, e4⟩
    by_cases hb : b = C
    · have e0 : left = 0 := by subst hb; omega
      split
      · exact stop e0
      · rw [if_pos (nI_le (show C ≤ b by omega) (by omega))]
        exact stop e0
    · have hlt : b < C := by omega
      rw [if_neg (show ¬ (48 : Int32) ≤ nI b from nI_ge (show b < 48 by omega) (by decide)), if_neg (nI_ge hlt (by omega))]
      by_cases h0 : left = 0
      · rw [if_pos (show nI left ≤ 0 by subst h0; decide)]
        exact stop h0
      · rw [if_neg (nI_nle (by omega) (by omega)), nI_clamp (by omega)]
        obtain ⟨n, hn'⟩ : ∃ n, C - b = n + 1 := ⟨C - b - 1, by omega⟩
        have hn2 : C - (b + 1) = n := by omega
        rw [hn']
        simp only [ptk, if_neg h0]
        by_cases h6 : h b = -1
        · rw [if_pos h6, if_pos h6]
          have u2 := pcnt_upd (h := h) (v := -1) (x := v) hlt
          rw [h6, if_pos rfl, if_neg hv] at u2
          have u3 : pcnt (upd h b v) (-1) (b + 1) = pcnt h (-1) b := by
            simp only [pcnt]
            rw [pcnt_out (Nat.le_refl _), pu_eq, if_neg hv, Nat.add_zero]
          have e1 : nI left + (-1) = nI (left - 1) := by
            obtain ⟨z, rfl⟩ : ∃ z, left = z + 1 := ⟨left - 1, by omega⟩
            exact pk_m1 z
          have e2 : nI (pcnt h (-1) C) - 1 = nI (pcnt (upd h b v) (-1) C) := by
            show _ - nI 1 = _
            rw [pk_sub (by omega)]; congr 1; omega
          rw [e1, e2, nI_1]
          have hn3 : ∀ j, b + 1 ≤ j → j < C → upd h b v j ≠ v := fun j q1 q2 => by rw [pu_ne (by omega)]; exact hn j (by omega) q2
          have go := fun y hy => ih (b + 1) (left - 1) y (upd h b v) (by omega) (by omega) (by omega) (by omega) hy hn3
          rw [hn2] at go
          rcases hx with ⟨g1, g2⟩ | ⟨m, g1, g2, g3, g4⟩
          · rw [if_pos g1]
            exact go _ (Or.inr ⟨b, rfl, by omega, pu_eq, fun j hj => by rw [pu_ne (by omega)]; exact g2 j hj⟩)
          · rw [if_neg (by rw [g1]; intro z; have z1 := congrArg Int32.toInt z; rw [fc_nI (by omega), pz_1] at z1; omega)]
            refine go _ (Or.inr ⟨m, g1, by omega, by rw [pu_ne (by omega)]; exact g3, fun j hj => by rw [pu_ne (by omega)]; exact g4 j hj⟩)
        · rw [if_neg h6, if_neg h6, nI_1]
          have u3 : pcnt h (-1) (b + 1) = pcnt h (-1) b := by
            simp only [pcnt]
            rw [if_neg h6, Nat.add_zero]
          have := ih (b + 1) left x h (by omega) (by omega) hl (by omega) (by
            rcases hx with ⟨g1, g2⟩ | ⟨m, g1, g2, g3, g4⟩
            · refine Or.inl ⟨g1, fun j hj => ?_⟩
              by_cases e : j = b
              · subst e; exact hn j (Nat.le_refl _) hlt
              · exact g2 j (by omega)
            · exact Or.inr ⟨m, g1, by omega, g3, g4⟩) (fun j q1 q2 => hn j (by omega) q2)
          rw [hn2] at this
          exact this
/-! soiling -/
def psl (h : Nat → Int32) (v : Int32) (b C : Nat) : Nat → Int32 := fun j => if b ≤ j ∧ j < C ∧ h j = v then -2 else h j
theorem psl_end {h : Nat → Int32} {v : Int32} {C : Nat} : psl h v C C = h := by
  funext j
  simp only [psl]
  rw [if_neg (by omega)]
theorem psl_hit {h : Nat → Int32} {v : Int32} {b C : Nat} (hb : b < C) (e : h b = v) (hv : v ≠ -2) : psl (upd h b (-2)) v (b + 1) C = psl h v b C := by
  funext j
  simp only [psl]
  by_cases q : j = b
  · subst q
    rw [if_neg (by omega), if_pos ⟨Nat.le_refl _, hb, e⟩, pu_eq]
  · rw [pu_ne q]
    by_cases z : b + 1 ≤ j ∧ j < C ∧ h j = v
    · rw [if_pos z, if_pos ⟨by omega, z.2⟩]
    · rw [if_neg z, if_neg (fun y => z ⟨by omega, y.2⟩)]
theorem psl_miss {h : Nat → Int32} {v : Int32} {b C : Nat} (hb : b < C) (e : h b ≠ v) : psl h v (b + 1) C = psl h v b C := by
  funext j
  simp only [psl]
  by_cases q : j = b
  · subst q
    rw [if_neg (by omega), if_neg (fun y => e y.2.2)]
  · by_cases z : b + 1 ≤ j ∧ j < C ∧ h j = v
    · rw [if_pos z, if_pos ⟨by omega, z.2⟩]
    · rw [if_neg z, if_neg (fun y => z ⟨by omega, y.2⟩)]
theorem psl_class {C : Nat} {free v : Int32} (hC : C ≤ 48) (hv : v ≠ -2) : ∀ (k b s D : Nat) (h : Nat → Int32), b ≤ C → 48 < b + k →
    mX0_soil_L4 (nI C) free (nI D) v k (nI s) (nI b) h = (nI (s + pcnt h v C - pcnt h v b), nI (D + (s + pcnt h v C - pcnt h v b)), psl h v b C) := by
  intro k
  induction k with
  | zero => intro b s D h h1 h2; omega
  | succ k ih =>
    intro b s D h h1 h2
    rw [mX0_soil_L4_s, mX0_soil_S4]
    by_cases hb : b = C
    · subst hb
      rw [psl_end, Nat.add_sub_cancel, nI_add]
      split
      · rfl
      · rw [if_pos (nI_le (Nat.le_refl _) (by omega))]
    · have hlt : b < C := by omega
      rw [if_neg (show ¬ (48 : Int32) ≤ nI b from nI_ge (show b < 48 by omega) (by decide)), if_neg (nI_ge hlt (by omega)), nI_clamp (by omega)]
      have m1 : pcnt h v (b + 1) ≤ pcnt h v C := pcnt_mono hlt
      simp only [pcnt] at m1
      by_cases h6 : h b = v
      · rw [if_pos h6]
        rw [if_pos h6] at m1
        have u1 := pcnt_upd (h := h) (v := v) (x := -2) hlt
        rw [if_pos h6, if_neg (fun e => hv e.symm)] at u1
        have u3 : pcnt (upd h b (-2)) v (b + 1) = pcnt h v b := by
          simp only [pcnt]
          rw [pcnt_out (Nat.le_refl _), pu_eq, if_neg (fun e => hv e.symm), Nat.add_zero]
        rw [nI_1, nI_1, ih (b + 1) (s + 1) D _ (by omega) (by omega), psl_hit hlt h6 hv, u3]
        have e : s + 1 + pcnt (upd h b (-2)) v C - pcnt h v b = s + pcnt h v C - pcnt h v b := by omega
        rw [e]
      · rw [if_neg h6, nI_1, ih (b + 1) s D h (by omega) (by omega), psl_miss hlt h6]
        have u3 : pcnt h v (b + 1) = pcnt h v b := by
          simp only [pcnt]
          rw [if_neg h6, Nat.add_zero]
        rw [u3]
theorem psl_pat {C b : Nat} {v w : Int32} {h : Nat → Int32} (h1 : w ≠ -2) (h2 : w ≠ v) {N : Nat} : pat h (psl h v b C) w N := by
  intro j hj
  simp only [psl]
  by_cases z : b ≤ j ∧ j < C ∧ h j = v
  · rw [if_pos z, z.2.2]
    exact ⟨fun y => absurd y.symm h2, fun y => absurd y.symm h1⟩
  · rw [if_neg z]
theorem psl_cnt {v : Int32} (hv : v ≠ -2) {h : Nat → Int32} {C : Nat} : ∀ (n : Nat), n ≤ C → pcnt (psl h v 0 C) (-2) n = pcnt h (-2) n + pcnt h v n
  | 0, _ => rfl
  | n + 1, q => by
    simp only [pcnt]
    rw [psl_cnt hv n (by omega)]
    by_cases e : h n = v
    · have e1 : psl h v 0 C n = -2 := by simp only [psl]; rw [if_pos ⟨Nat.zero_le _, by omega, e⟩]
      rw [e1, if_pos rfl, if_pos e, if_neg (by rw [e]; exact hv)]; omega
    · have e1 : psl h v 0 C n = h n := by simp only [psl]; rw [if_neg (fun y => e y.2.2)]
      rw [e1, if_neg e]; omega
theorem psl_no {v : Int32} (hv : v ≠ -2) {h : Nat → Int32} {C : Nat} : pcnt (psl h v 0 C) v C = 0 := by
  refine pcnt_0.mpr (fun j hj => ?_)
  simp only [psl]
  by_cases e : h j = v
  · rw [if_pos ⟨Nat.zero_le _, hj, e⟩]; exact fun z => hv z.symm
  · rw [if_neg (fun y => e y.2.2)]; exact e
