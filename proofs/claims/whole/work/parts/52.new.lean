/-! PURE: a new card on both sides -/
theorem pcnt_all {v : Int32} {h : Nat → Int32} : ∀ {n : Nat}, (∀ j, j < n → h j = v) → pcnt h v n = n
  | 0, _ => rfl
  | n + 1, q => by
    simp only [pcnt]
    rw [pcnt_all (fun j hj => q j (by omega)), if_pos (q n (by omega))]
theorem R_new {C p : Nat} {set h0 kc qc told row : Nat → Int32} {p2 p3 p4 : Int32} (hC : 8 ≤ C ∧ C ≤ 48) (hp : p < 1000) (h2 : p2 = nI p) (hs : set 0 = p2 ∧ set 1 = p3 ∧ set 2 = p4) :
    RR 0 0 0 C 0 set (fun j => if j < 48 then -1 else h0 j) (nI C) (nI C) 0 kc 0 qc 0 told 0 0 0 0 0 0 0 0 0 0 0 (-1) (pN (nI C) p2 p3 p4 row) := by
  have l0 : (0 : Int32).toInt = 0 := by decide
  have rz : ∀ j, (3 < j ∧ j < 15) ∨ (15 < j ∧ j < 19) ∨ (67 ≤ j ∧ j < 357) → pN (nI C) p2 p3 p4 row j = 0 := by
    intro j hj
    unfold pN
    rw [if_neg (by omega), if_neg (by omega), if_neg (by omega), if_neg (by omega), if_neg (by omega), if_neg (by omega), if_pos (by omega)]
  have e1 : pcnt (fun j => if j < 48 then (-1 : Int32) else h0 j) (-1) C = C := pcnt_all (fun j hj => by rw [if_pos (by omega)])
  have e2 : pcnt (fun j => if j < 48 then (-1 : Int32) else h0 j) (-2) C = 0 := pcnt_0.mpr (fun j hj => by rw [if_pos (by omega)]; decide)
  refine ⟨⟨⟨⟨⟨hs.1, hs.2.1, hs.2.2⟩, ?_, ?_, ?_, ?_, ?_⟩, ?_, ?_, ?_, ?_, ?_, ?_, rfl⟩, ⟨⟨⟨rfl, ?_⟩, ⟨rfl, ?_⟩, ⟨rfl, rfl⟩, rfl, ?_⟩, by omega, hC.1, hC.2⟩, fun b hb => ?_, by rw [e1], by rw [e2]; rfl⟩, ⟨fun i hi => absurd hi (Nat.not_lt_zero _), fun i hi => absurd hi (Nat.not_lt_zero _), fun i j hij hj => by omega, fun i hi => by omega, fun b hb => ⟨?_, fun i q1 q2 => by omega⟩⟩, fun k hk => by omega, ⟨by omega, by omega⟩, ⟨by omega, by omega⟩, Nat.le_refl _, Or.inl rfl, p, hp, by rw [hs.1]; exact h2⟩
  case refine_15 =>
    show (if b < 48 then (-1 : Int32) else h0 b) = pN (nI C) p2 p3 p4 row (19 + b)
    rw [if_pos (by omega)]
    unfold pN
    rw [if_neg (by omega), if_neg (by omega), if_neg (by omega), if_neg (by omega), if_neg (by omega), if_pos (by omega)]
  case refine_16 =>
    show (if b < 48 then (-1 : Int32) else h0 b).toInt < (0 : Int32).toInt
    rw [if_pos (by omega)]; decide
  all_goals first
    | (rw [rz _ (by omega)]; done)
    | (rw [rz _ (by omega)]; rfl)
