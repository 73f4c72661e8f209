/-! PURE: copies -/
section
variable {Bd K W C B : Nat} {set holds : Nat → Int32} {count free dirty : Int32} {kc : Nat → Int32} {kl : Int32} {qc : Nat → Int32} {ql : Int32} {told : Nat → Int32} {rt rc rl rs re rb te ca dr lo la lp : Int32} {row : Nat → Int32}
theorem R_pass {p0 : Int32} (hR : RR Bd K W C B set holds count free dirty kc kl qc ql told rt rc rl rs re rb te ca dr lo la lp row) (hp : p0.toInt ≤ 50) (hB : Bd + 51 < 1000000000) :
    ∃ (K' W' B' : Nat) (r free' dirty' : Int32) (holds' : Nat → Int32) (kl' : Int32) (kc' : Nat → Int32) (ql' : Int32) (qc' : Nat → Int32) (rt' rc' rl' rs' re' rb' : Int32) (told' : Nat → Int32) (te' dr' la' : Int32) (row' : Nat → Int32),
      mX5_pass set holds count free dirty kc kl qc ql told rt rc rl rs re rb te ca dr lo la lp p0 = (r, te', dr', la', free', dirty', holds', kl', kc', ql', qc', rt', rc', rl', rs', re', rb', told') ∧ mX8_ticksIn row p0 = (r, row') ∧
      RR (Bd + 51) K' W' C B' set holds' count free' dirty' kc' kl' qc' ql' told' rt' rc' rl' rs' re' rb' te' ca dr' lo la' lp row' :=
  R_pass_L hp 51 0 Bd K W B 0 free dirty holds kl kc ql qc rt rc rl rs re rb told te dr la row hR hB (by omega) (by omega)
/-- only what is in use matters: the class's side -/
theorem RR_live {set' holds' kc' qc' told' : Nat → Int32} (hR : RR Bd K W C B set holds count free dirty kc kl qc ql told rt rc rl rs re rb te ca dr lo la lp row) (hs : ∀ j, j < 3 → set' j = set j) (hh : ∀ j, j < 48 → holds' j = holds j) (hk : ∀ j, j < 7 * K → kc' j = kc j) (hq : ∀ j, j < 7 * W → qc' j = qc j) (ht : ∀ j, j < 30 → told' j = told j) :
    RR Bd K W C B set' holds' count free dirty kc' kl qc' ql told' rt rc rl rs re rb te ca dr lo la lp row := by
  obtain ⟨⟨⟨⟨⟨s0, s1, s2⟩, s4⟩, s9⟩, ⟨n1, w4, c8, c48⟩, hBl, hfr, hdi⟩, ⟨hKe, hQu, hNu⟩, hTo, hb1, hb2, hb3, hb4, p, hp1, hp2⟩ := hR
  have hcnt : ∀ v, pcnt holds' v C = pcnt holds v C := fun v => pcnt_cong (fun j hj => hh j (by omega))
  have hpat : ∀ v, pat holds holds' v C := fun v b hb => by rw [hh b (by omega)]
  refine ⟨⟨⟨⟨⟨?_, ?_, ?_⟩, s4⟩, s9⟩, ⟨n1, w4, c8, c48⟩, fun b hb => ?_, ?_, ?_⟩, ⟨?_, ?_, hNu.pat (fun i q1 q2 => hpat _) (fun b hb => by rw [hh b (by omega)]; exact (hNu.2.2 b hb).1)⟩, ?_, hb1, hb2, hb3, hb4, p, hp1, ?_⟩
  · rw [hs 0 (by omega)]; exact s0
  · rw [hs 1 (by omega)]; exact s1
  · rw [hs 2 (by omega)]; exact s2
  · rw [hh b (by omega)]; exact hBl b hb
  · rw [hcnt]; exact hfr
  · rw [hcnt]; exact hdi
  · intro i hi
    obtain ⟨h1, h2, h3, n, m, h4, h5, h6, h7, h8, h9⟩ := (hKe.pat (fun i hi => hpat (row (67 + 5 * i)))) i hi
    exact ⟨fun w hw => by rw [hk _ (by omega)]; exact h1 w hw, by rw [hk _ (by omega)]; exact h2, by rw [hk _ (by omega)]; exact h3, n, m, h4, h5, h6, h7, h8, by rw [hk _ (by omega)]; exact h9⟩
  · intro i hi
    obtain ⟨h1, h2⟩ := hQu i hi
    exact ⟨fun w hw => by rw [hq _ (by omega)]; exact h1 w hw, h2⟩
  · intro k hk j hj
    rw [ht _ (by omega)]; exact hTo k hk j hj
  · rw [hs 0 (by omega)]; exact hp2
/-- .. the reference's -/
theorem RR_row {row' : Nat → Int32} (hR : RR Bd K W C B set holds count free dirty kc kl qc ql told rt rc rl rs re rb te ca dr lo la lp row) (e : ∀ j, j < 357 → row' j = row j) :
    RR Bd K W C B set holds count free dirty kc kl qc ql told rt rc rl rs re rb te ca dr lo la lp row' := by
  have hk := RR_cnt hR
  obtain ⟨⟨⟨⟨⟨s0, s1, s2⟩, s4, s5, s6, s7, s8⟩, s9, s10, s11, s12, s13, s14, s15⟩, ⟨⟨⟨n1, n2⟩, ⟨n3, n4⟩, ⟨n5, n6⟩, n7, n8⟩, w4, c8, c48⟩, hBl⟩, ⟨hKe, hQu, hNu⟩, hTo, hBd⟩ := hR
  refine ⟨⟨⟨⟨⟨?_, ?_, ?_⟩, ?_, ?_, ?_, ?_, ?_⟩, ?_, ?_, ?_, ?_, ?_, ?_, ?_⟩, ⟨⟨⟨n1, ?_⟩, ⟨n3, ?_⟩, ⟨n5, ?_⟩, n7, ?_⟩, w4, c8, c48⟩, hBl.cong (fun b hb => e _ (by omega))⟩, ⟨hKe.cong (fun j h1 h2 => e _ (by omega)), hQu.cong (fun j h1 h2 => e _ (by omega)) (Int.le_refl _), hNu.cong (fun j h1 h2 => e _ (by omega)) (fun j h1 h2 => e _ (by omega)) (Int.le_refl _)⟩, hTo.cong (fun j h1 h2 => e _ (by omega)), hBd⟩
  all_goals (rw [e _ (by omega)]; assumption)
end
