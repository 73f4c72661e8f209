/-! PURE: settings, a new card, all dropped -/
section
variable {Bd K W C B : Nat} {set holds : Nat → Int32} {count free dirty : Int32} {kc : Nat → Int32} {kl : Int32} {qc : Nat → Int32} {ql : Int32} {told : Nat → Int32} {rt rc rl rs re rb te ca dr lo la lp : Int32} {row : Nat → Int32}
/-- a setting changes -/
theorem R_set {w : Nat} {v : Int32} (hR : RR Bd K W C B set holds count free dirty kc kl qc ql told rt rc rl rs re rb te ca dr lo la lp row) (hw : w < 3) (hv : w = 0 → ∃ p : Nat, p < 1000 ∧ v = nI p) :
    mX5_change set holds count free dirty kc kl qc ql told rt rc rl rs re rb te ca dr lo la lp (nI w) v = (row w, upd set w v) ∧ RR Bd K W C B (upd set w v) holds count free dirty kc kl qc ql told rt rc rl rs re rb te ca dr lo la lp (upd row w v) := by
  obtain ⟨⟨⟨⟨⟨s0, s1, s2⟩, s4, s5, s6, s7, s8⟩, s9, s10, s11, s12, s13, s14, s15⟩, ⟨⟨⟨n1, n2⟩, ⟨n3, n4⟩, ⟨n5, n6⟩, n7, n8⟩, w4, c8, c48⟩, hBl⟩, ⟨hKe, hQu, hNu⟩, hTo, hb1, hb2, hb3, hb4, p, hp1, hp2⟩ := hR
  have hold : set w = row w := by
    match w, hw with
    | 0, _ => exact s0
    | 1, _ => exact s1
    | 2, _ => exact s2
  constructor
  · unfold mX5_change
    rw [if_neg (nI_pos (by omega)), if_pos (show nI w < 3 from nI_lt (b := 3) hw (by decide)), nI_clamp (by omega), hold]
  · have rd : ∀ j, 3 ≤ j → upd row w v j = row j := fun j hj => pu_ne (by omega)
    have ss : ∀ j, j < 3 → set j = row j → upd set w v j = upd row w v j := fun j _ e => by
      by_cases q : j = w
      · subst q; rw [pu_eq, pu_eq]
      · rw [pu_ne q, pu_ne q]; exact e
    refine ⟨⟨⟨⟨⟨ss 0 (by omega) s0, ss 1 (by omega) s1, ss 2 (by omega) s2⟩, ?_, ?_, ?_, ?_, ?_⟩, ?_, ?_, ?_, ?_, ?_, ?_, ?_⟩, ⟨⟨⟨n1, ?_⟩, ⟨n3, ?_⟩, ⟨n5, ?_⟩, n7, ?_⟩, w4, c8, c48⟩, hBl.cong (fun b hb => rd _ (by omega))⟩, ⟨hKe.cong (fun j h1 h2 => rd _ (by omega)), hQu.cong (fun j h1 h2 => rd _ (by omega)) (Int.le_refl _), hNu.cong (fun j h1 h2 => rd _ (by omega)) (fun j h1 h2 => rd _ (by omega)) (Int.le_refl _)⟩, hTo.cong (fun j h1 h2 => rd _ (by omega)), hb1, hb2, hb3, hb4, ?_⟩
    case refine_17 =>
      by_cases q : w = 0
      · obtain ⟨p', h1, h2⟩ := hv q
        subst q
        exact ⟨p', h1, by rw [pu_eq]; exact h2⟩
      · exact ⟨p, hp1, by rw [pu_ne (by omega)]; exact hp2⟩
    all_goals (rw [rd _ (by omega)]; assumption)
end
