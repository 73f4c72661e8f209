/-! PURE: one state copied into another -/
section
variable {Bd K W C B : Nat} {set holds : Nat → Int32} {count free dirty : Int32} {kc : Nat → Int32} {kl : Int32} {qc : Nat → Int32} {ql : Int32} {told : Nat → Int32} {rt rc rl rs re rb te ca dr lo la lp : Int32} {row : Nat → Int32}
variable {gset gholds : Nat → Int32} {gcount gfree gdirty : Int32} {gkc : Nat → Int32} {gkl : Int32} {gqc : Nat → Int32} {gql : Int32} {gtold : Nat → Int32} {grt grc grl grs gre grb gte gca gdr glo gla glp : Int32}
theorem pcpy_in {f g : Nat → Int32} {n j : Nat} (h : j < n) : va_cpy f g 0 0 n j = f j := by
  rw [pk_cpy_in (Nat.zero_le _) (by omega)]
  congr 1; omega
theorem R_copyFrom (hR : RR Bd K W C B set holds count free dirty kc kl qc ql told rt rc rl rs re rb te ca dr lo la lp row) :
    ∃ set' holds' kc' qc' told' : Nat → Int32, mX5_copyFrom gset gholds gcount gfree gdirty gkc gkl gqc gql gtold grt grc grl grs gre grb gte gca gdr glo gla glp set holds count free dirty kc kl qc ql told rt rc rl rs re rb te ca dr lo la lp = (te, ca, dr, lo, la, lp, set', count, free, dirty, holds', kl, kc', ql, qc', rt, rc, rl, rs, re, rb, told') ∧
      RR Bd K W C B set' holds' count free dirty kc' kl qc' ql told' rt rc rl rs re rb te ca dr lo la lp row := by
  obtain ⟨h1, h2, h3, h4, h5, h6⟩ := RR_cnt hR
  have l30 : (30 : Int32).toNatClampNeg = 30 := by decide
  have l48 : (48 : Int32).toNatClampNeg = 48 := by decide
  have e1 : (nI K * 7).toNatClampNeg = 7 * K := by
    rw [show nI K * 7 = nI (K * 7) from pk_mul K 7, nI_clamp (by omega), Nat.mul_comm]
  have e2 : (nI W * 7).toNatClampNeg = 7 * W := by
    rw [show nI W * 7 = nI (W * 7) from pk_mul W 7, nI_clamp (by omega), Nat.mul_comm]
  subst h1
  subst h4
  refine ⟨va_cpy set gset 0 0 3, va_cpy holds gholds 0 0 48, va_cpy kc gkc 0 0 (7 * K), va_cpy qc gqc 0 0 (7 * W), va_cpy told gtold 0 0 30, ?_, RR_live hR (fun j hj => pcpy_in hj) (fun j hj => pcpy_in hj) (fun j hj => pcpy_in hj) (fun j hj => pcpy_in hj) (fun j hj => pcpy_in hj)⟩
  unfold mX5_copyFrom
  have f1 := fc_nI (n := K) (by omega)
  have f2 := fc_nI (n := W) (by omega)
  rw [fr_cf1 (N := 336) (by omega) (by decide), fr_cf1 (N := 28) (by omega) (by decide), e1, e2]
  simp only [mX0_copyFrom, mX3_copyFrom, pl_lit0, pl_3, l30, l48]
theorem R_rowcopy {g : Nat → Int32} (hR : RR Bd K W C B set holds count free dirty kc kl qc ql told rt rc rl rs re rb te ca dr lo la lp row) : RR Bd K W C B set holds count free dirty kc kl qc ql told rt rc rl rs re rb te ca dr lo la lp (mX8_copy 357 row 357 g 0 0 357) := by
  have e : mX8_copy 357 row 357 g 0 0 357 = va_cpy row g 0 0 357 := pcp (a := 0) (b := 0) (n := 357) (by omega) (by omega) (by omega)
  rw [e]
  exact RR_row hR (fun j hj => pcpy_in hj)
end
