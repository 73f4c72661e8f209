/-! PURE: ticks on both sides -/
theorem RR_mono {Bd Bd' K W C B : Nat} {set holds : Nat → Int32} {count free dirty : Int32} {kc : Nat → Int32} {kl : Int32} {qc : Nat → Int32} {ql : Int32} {told : Nat → Int32} {rt rc rl rs re rb te ca dr lo la lp : Int32} {row : Nat → Int32} (hR : RR Bd K W C B set holds count free dirty kc kl qc ql told rt rc rl rs re rb te ca dr lo la lp row) (h : Bd ≤ Bd') : RR Bd' K W C B set holds count free dirty kc kl qc ql told rt rc rl rs re rb te ca dr lo la lp row :=
  ⟨hR.1, hR.2.1, hR.2.2.1, hR.2.2.2.mono h⟩
theorem R_pass_L {C : Nat} {set : Nat → Int32} {count ca lo lp p0 : Int32} (hp : p0.toInt ≤ 50) : ∀ (k i Bd K W B : Nat) (x2 free dirty : Int32) (holds : Nat → Int32) (kl : Int32) (kc : Nat → Int32) (ql : Int32) (qc : Nat → Int32) (rt rc rl rs re rb : Int32) (told : Nat → Int32) (te dr la : Int32) (row : Nat → Int32),
    RR Bd K W C B set holds count free dirty kc kl qc ql told rt rc rl rs re rb te ca dr lo la lp row → Bd + k < 1000000000 → i ≤ 50 → 50 < i + k →
    ∃ (K' W' B' : Nat) (r free' dirty' : Int32) (holds' : Nat → Int32) (kl' : Int32) (kc' : Nat → Int32) (ql' : Int32) (qc' : Nat → Int32) (rt' rc' rl' rs' re' rb' : Int32) (told' : Nat → Int32) (te' dr' la' : Int32) (row' : Nat → Int32),
      mX5_pass_L4 set count ca lo lp p0 k x2 (nI i) free dirty holds kl kc ql qc rt rc rl rs re rb told te dr la = (r, te', dr', la', free', dirty', holds', kl', kc', ql', qc', rt', rc', rl', rs', re', rb', told') ∧ mX8_ticksIn_L4 p0 k x2 (nI i) row = (r, row') ∧
      RR (Bd + k) K' W' C B' set holds' count free' dirty' kc' kl' qc' ql' told' rt' rc' rl' rs' re' rb' te' ca dr' lo la' lp row' := by
  intro k
  induction k with
  | zero => intro i Bd K W B x2 free dirty holds kl kc ql qc rt rc rl rs re rb told te dr la row hR h1 h2 h3; omega
  | succ k ih =>
    intro i Bd K W B x2 free dirty holds kl kc ql qc rt rc rl rs re rb told te dr la row hR h1 h2 h3
    rw [mX5_pass_L4_s, mX5_pass_S4, mX8_ticksIn_L4_s, mX8_ticksIn_S4]
    by_cases c : p0 ≤ nI i
    · rw [if_pos c, if_pos c]
      exact ⟨K, W, B, _, _, _, _, _, _, _, _, _, _, _, _, _, _, _, _, _, _, row, rfl, rfl, RR_mono hR (by omega)⟩
    · rw [if_neg c, if_neg c]
      obtain ⟨n, K', W', B', free2, dirty2, holds2, la3, free3, holds3, kl3, kc3, ql3, qc3, rs3, dr4, dirty4, holds4, kl4, kc4, rt5, rc5, rl5, rs5, re5, rb5, told5, row', e1, e2, e3, e4, e5, -, e6⟩ := R_tick hR (by omega)
      have hi : i < 50 := by
        rcases Nat.lt_or_ge i 50 with z | z
        · exact z
        · refine absurd ?_ c
          rw [fc_le, fc_nI (by omega)]
          omega
      obtain ⟨K2, W2, B2, r, f1, f2, f3, f4, f5, f6, f7, f8, f9, f10, f11, f12, f13, f14, f15, f16, f17, row2, g1, g2, g3⟩ := ih (i + 1) (Bd + 1) K' W' B' (x2 + nI n) free3 dirty4 holds4 kl4 kc4 ql3 qc3 rt5 rc5 rl5 rs5 re5 rb5 told5 (te + 1) dr4 la3 row' e6 (by omega) (by omega) (by omega)
      have e7 : Bd + 1 + k = Bd + (k + 1) := by omega
      rw [e7] at g3
      refine ⟨K2, W2, B2, r, f1, f2, f3, f4, f5, f6, f7, f8, f9, f10, f11, f12, f13, f14, f15, f16, f17, row2, ?_, ?_, g3⟩
      · rw [pl_lit0, e1]
        dsimp only
        rw [e2]
        dsimp only
        rw [e3]
        dsimp only
        rw [e4]
        dsimp only
        rw [nI_1]
        exact g1
      · rw [e5]
        dsimp only
        rw [nI_1]
        exact g2
