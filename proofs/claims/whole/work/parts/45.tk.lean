/-! PURE: the whole tick -/
section
variable {Bd K W C B : Nat} {set holds : Nat → Int32} {count free dirty : Int32} {kc : Nat → Int32} {kl : Int32} {qc : Nat → Int32} {ql : Int32} {told : Nat → Int32} {rt rc rl rs re rb te ca dr lo la lp : Int32} {row : Nat → Int32}
theorem R_tick (hR : RR Bd K W C B set holds count free dirty kc kl qc ql told rt rc rl rs re rb te ca dr lo la lp row) (hB : Bd < 1000000000) :
    ∃ (n K' W' B' : Nat) (free2 dirty2 : Int32) (holds2 : Nat → Int32) (la3 free3 : Int32) (holds3 : Nat → Int32) (kl3 : Int32) (kc3 : Nat → Int32) (ql3 : Int32) (qc3 : Nat → Int32) (rs3 dr4 dirty4 : Int32) (holds4 : Nat → Int32) (kl4 : Int32) (kc4 : Nat → Int32) (rt5 rc5 rl5 rs5 re5 rb5 : Int32) (told5 row' : Nat → Int32),
      mX0_clean holds count free dirty (set 0) = (free2, dirty2, holds2) ∧
      mX5_storeWaiting set holds2 count free2 dirty2 kc kl qc ql told rt rc rl rs re rb te ca dr lo la lp = (nI n, la3, free3, holds3, kl3, kc3, ql3, qc3, rs3) ∧
      mX5_makeRoomForFirst set holds3 count free3 dirty2 kc3 kl3 qc3 ql3 told rt rc rl rs3 re rb te ca dr lo la3 lp = (dr4, dirty4, holds4, kl4, kc4) ∧
      mX5_endTick set holds4 count free3 dirty4 kc4 kl4 qc3 ql3 told rt rc rl rs3 re rb te ca dr4 lo la3 lp = (te + 1, rt5, rc5, rl5, rs5, re5, rb5, told5) ∧
      mX8_tick row = (nI n, row') ∧ W' + n = W ∧
      RR (Bd + 1) K' W' C B' set holds4 count free3 dirty4 kc4 kl4 qc3 ql3 told5 rt5 rc5 rl5 rs5 re5 rb5 (te + 1) ca dr4 lo la3 lp row' := by
  have hk := RR_cnt hR
  obtain ⟨free2, dirty2, holds2, row2, a1, a2, a3⟩ := R_clean hR
  have hk2 := RR_cnt a3
  obtain ⟨h1, h2, h3, h4, h5, h6⟩ := hk2
  subst h1
  subst h4
  obtain ⟨n, la3, free3, holds3, kc3, W', qc3, rs3, row3, b1, b2, b3, b4⟩ := R_storeWaiting row hB 5 5 0 K W free2 holds2 kc qc rs la row2 a3 (by omega) (by omega) (by omega)
  have hk3 := RR_cnt b4
  obtain ⟨K', dr4, dirty4, holds4, kc4, row4, c1, c2, c3, c4⟩ := R_makeRoom row row3 49 49 0 (K + n) dirty2 holds3 kc3 dr row3 b4 (by omega) (by omega) (by omega)
  obtain ⟨rt5, rc5, rl5, rs5, re5, rb5, told5, B', d1, d2⟩ := R_endTick c4 hB
  rw [Nat.zero_add] at b1
  refine ⟨n, K', W', B', free2, dirty2, holds2, la3, free3, holds3, _, kc3, _, qc3, rs3, dr4, dirty4, holds4, _, kc4, rt5, rc5, rl5, rs5, re5, rb5, told5, pE row4, a1, b1, c1, d1, ?_, b3, d2⟩
  unfold mX8_tick
  dsimp only
  rw [a2, b2, c2, hk3.2.1, hk.2.1, pk_sub (by omega), Nat.add_sub_cancel_left]
end
theorem RX_tick {m : Nat} {row row' : Nat → Int32} {r : Int32} (h : RXn (m + 1) row) (ht : mX8_tick row = (r, row')) : RXn m row' := by
  obtain ⟨Bd, K, W, C, B, h1, set, holds, count, free, dirty, kc, kl, qc, ql, told, rt, rc, rl, rs, re, rb, te, ca, dr, lo, la, lp, hR⟩ := h
  obtain ⟨n, K', W', B', free2, dirty2, holds2, la3, free3, holds3, kl3, kc3, ql3, qc3, rs3, dr4, dirty4, holds4, kl4, kc4, rt5, rc5, rl5, rs5, re5, rb5, told5, row2, -, -, -, -, e5, -, e6⟩ := R_tick hR (by omega)
  rw [ht] at e5
  have e7 := congrArg Prod.snd e5
  dsimp only at e7
  subst e7
  exact ⟨Bd + 1, K', W', C, B', by omega, _, _, _, _, _, _, _, _, _, _, _, _, _, _, _, _, _, _, _, _, _, _, e6⟩
