/-! PURE: the history and the actions, on both sides -/
/-- a state and a row belong together -/
def RS (Bd : Nat) (v : fcSV) (row : Nat → Int32) : Prop := ∃ K W C B : Nat, RR Bd K W C B (v.2.2.2.2.2.2.1) (v.2.2.2.2.2.2.2.2.2.2.1) (v.2.2.2.2.2.2.2.1) (v.2.2.2.2.2.2.2.2.1) (v.2.2.2.2.2.2.2.2.2.1) (v.2.2.2.2.2.2.2.2.2.2.2.2.1) (v.2.2.2.2.2.2.2.2.2.2.2.1) (v.2.2.2.2.2.2.2.2.2.2.2.2.2.2.1) (v.2.2.2.2.2.2.2.2.2.2.2.2.2.1) (v.2.2.2.2.2.2.2.2.2.2.2.2.2.2.2.2.2.2.2.2.2) (v.2.2.2.2.2.2.2.2.2.2.2.2.2.2.2.1) (v.2.2.2.2.2.2.2.2.2.2.2.2.2.2.2.2.1) (v.2.2.2.2.2.2.2.2.2.2.2.2.2.2.2.2.2.1) (v.2.2.2.2.2.2.2.2.2.2.2.2.2.2.2.2.2.2.1) (v.2.2.2.2.2.2.2.2.2.2.2.2.2.2.2.2.2.2.2.1) (v.2.2.2.2.2.2.2.2.2.2.2.2.2.2.2.2.2.2.2.2.1) (v.1) (v.2.1) (v.2.2.1) (v.2.2.2.1) (v.2.2.2.2.1) (v.2.2.2.2.2.1) row
theorem RR.mono {Bd Bd' K W C B : Nat} {set : Nat → Int32} {holds : Nat → Int32} {count : Int32} {free : Int32} {dirty : Int32} {kc : Nat → Int32} {kl : Int32} {qc : Nat → Int32} {ql : Int32} {told : Nat → Int32} {rt : Int32} {rc : Int32} {rl : Int32} {rs : Int32} {re : Int32} {rb : Int32} {te : Int32} {ca : Int32} {dr : Int32} {lo : Int32} {la : Int32} {lp : Int32} {row : Nat → Int32} (h : RR Bd K W C B set holds count free dirty kc kl qc ql told rt rc rl rs re rb te ca dr lo la lp row) (q : Bd ≤ Bd') : RR Bd' K W C B set holds count free dirty kc kl qc ql told rt rc rl rs re rb te ca dr lo la lp row := by
  obtain ⟨h1, h2, h3, ⟨t1, t2⟩, ⟨a1, a2⟩, b1, b2⟩ := h
  exact ⟨h1, h2, h3, ⟨t1, by omega⟩, ⟨a1, by omega⟩, by omega, b2⟩
theorem RS.mono {Bd Bd' : Nat} {v : fcSV} {row : Nat → Int32} (h : RS Bd v row) (q : Bd ≤ Bd') : RS Bd' v row := by
  obtain ⟨K, W, C, B, h⟩ := h
  exact ⟨K, W, C, B, h.mono q⟩
theorem RS.row {Bd : Nat} {v : fcSV} {row row' : Nat → Int32} (h : RS Bd v row) (e : ∀ j, j < 357 → row' j = row j) : RS Bd v row' := by
  obtain ⟨K, W, C, B, h⟩ := h
  exact ⟨K, W, C, B, RR_row h e⟩
theorem RS.rx {Bd m : Nat} {v : fcSV} {row : Nat → Int32} (h : RS Bd v row) (q : Bd + m < 1000000000) : RXn m row := by
  obtain ⟨K, W, C, B, h⟩ := h
  exact ⟨Bd, K, W, C, B, q, _, _, _, _, _, _, _, _, _, _, _, _, _, _, _, _, _, _, _, _, _, _, h⟩
/-- the remembered states: h of them, the oldest at place o -/
def RH (Bd h o : Nat) (sg : Nat → fcSV) (dia : Nat → Int32) : Prop := o < 14 ∧ h ≤ 14 ∧ ∀ i, i < h → RS Bd (sg ((o + i) % 14)) (fun j => dia (357 * i + j))
theorem RH.mono {Bd Bd' h o : Nat} {sg : Nat → fcSV} {dia : Nat → Int32} (q : RH Bd h o sg dia) (hb : Bd ≤ Bd') : RH Bd' h o sg dia := ⟨q.1, q.2.1, fun i hi => (q.2.2 i hi).mono hb⟩
section
variable {Bd K W C B : Nat} {set holds : Nat → Int32} {count free dirty : Int32} {kc : Nat → Int32} {kl : Int32} {qc : Nat → Int32} {ql : Int32} {told : Nat → Int32} {rt rc rl rs re rb te ca dr lo la lp : Int32} {row : Nat → Int32}
variable {rf ss sp ig lf ac : Int32}
variable {f : Nat → Option Nat} {o h : Nat} {sg : Nat → fcSV} {dia : Nat → Int32} {old hln : Int32}
variable {uset : Nat → Int32} {uholds : Nat → Int32} {ucount : Int32} {ufree : Int32} {udirty : Int32} {ukc : Nat → Int32} {ukl : Int32} {uqc : Nat → Int32} {uql : Int32} {utold : Nat → Int32} {urt : Int32} {urc : Int32} {url : Int32} {urs : Int32} {ure : Int32} {urb : Int32} {ute : Int32} {uca : Int32} {udr : Int32} {ulo : Int32} {ula : Int32} {ulp : Int32}
theorem P_place {p : Nat} (ho : o < 14) (hp : p ≤ 14) : mX2_place f (nI o) hln (nI p) = f ((o + p) % 14) := by
  have er : (nI o + nI p) - (nI o + nI p) / 14 * 14 = nI ((o + p) % 14) := by
    rw [nI_add]; exact pk_rem (d := 14) (by omega) (by decide) (by decide)
  have hr := Nat.mod_lt (o + p) (show 0 < 14 by decide)
  unfold mX2_place
  rw [er, if_neg (nI_pos (by omega)), if_neg (show ¬ (14 : Int32) ≤ nI _ from nI_ge (b := 14) (by omega) (by decide)), nI_clamp (by omega)]
theorem P_remember (hR : RR Bd K W C B set holds count free dirty kc kl qc ql told rt rc rl rs re rb te ca dr lo la lp row) (ho : old = nI o) (hh : hln = nI h) (ha : ac = nI h) (hH : RH Bd h o sg dia) :
    ∃ (o' h' : Nat) (v' : fcSV) (dia' : Nat → Int32), mX2_remember f old hln set holds count free dirty kc kl qc ql told rt rc rl rs re rb te ca dr lo la lp uset uholds ucount ufree udirty ukc ukl uqc uql utold urt urc url urs ure urb ute uca udr ulo ula ulp = (nI o', nI h', v') ∧ mX8_remember rf ss sp ig lf ac row dia = (nI h', dia') ∧ RH Bd h' o' (fun i => if i = (o + h) % 14 then v' else sg i) dia' := by
  obtain ⟨h1, h2, h3⟩ := hH
  obtain ⟨set', holds', kc', qc', told', e1, e2⟩ := R_copyFrom (gset := uset) (gholds := uholds) (gcount := ucount) (gfree := ufree) (gdirty := udirty) (gkc := ukc) (gkl := ukl) (gqc := uqc) (gql := uql) (gtold := utold) (grt := urt) (grc := urc) (grl := url) (grs := urs) (gre := ure) (grb := urb) (gte := ute) (gca := uca) (gdr := udr) (glo := ulo) (gla := ula) (glp := ulp) hR
  have hv : RS Bd (te, ca, dr, lo, la, lp, set', count, free, dirty, holds', kl, kc', ql, qc', rt, rc, rl, rs, re, rb, told') row := ⟨K, W, C, B, e2⟩
  unfold mX2_remember mX8_remember
  rw [e1]
  subst ho hh ha
  by_cases c : h = 14
  · subst c
    have er : (nI o + 1) - (nI o + 1) / 14 * 14 = nI ((o + 1) % 14) := by
      rw [nI_1]; exact pk_rem (d := 14) (by omega) (by decide) (by decide)
    refine ⟨(o + 1) % 14, 14, (te, ca, dr, lo, la, lp, set', count, free, dirty, holds', kl, kc', ql, qc', rt, rc, rl, rs, re, rb, told'), mX8_copy 357 row 4998 (mX8_copy_same 4998 dia 357 0 4641) 0 (357 * (nI 14 - 1)) 357, ?_, ?_, Nat.mod_lt _ (by decide), by omega, fun i hi => ?_⟩
    · dsimp only
      rw [if_pos (show (14 : Int32) ≤ nI 14 from nI_le (a := 14) (Nat.le_refl _) (by decide)), er]
    · rw [if_pos (show nI 14 = 14 from rfl)]
      rfl
    · have ec : mX8_copy_same 4998 dia 357 0 4641 = va_cpy dia dia 357 0 4641 := fx_copy_same rfl (by decide) (by decide) (by decide)
      have ed : mX8_copy 357 row 4998 (va_cpy dia dia 357 0 4641) 0 (357 * (nI 14 - 1)) 357 = va_cpy row (va_cpy dia dia 357 0 4641) 0 4641 357 := fx_copy rfl (by decide) (by decide) (by decide)
      rw [ec, ed]
      by_cases z : i = 13
      · subst z
        have ez : ((o + 1) % 14 + 13) % 14 = (o + 14) % 14 := by omega
        dsimp only
        rw [if_pos ez]
        refine hv.row (fun j hj => ?_)
        try dsimp only
        rw [pk_cpy_in (by omega) (by omega)]
        exact congrArg row (by omega)
      · have ez : ((o + 1) % 14 + i) % 14 = (o + (i + 1)) % 14 := by omega
        have ne : ¬ (o + (i + 1)) % 14 = (o + 14) % 14 := by omega
        dsimp only
        rw [ez, if_neg ne]
        refine (h3 (i + 1) (by omega)).row (fun j hj => ?_)
        try dsimp only
        rw [pk_cpy_out (by omega), pk_cpy_in (by omega) (by omega)]
        exact congrArg dia (by omega)
  · have ne14 : ¬ nI h = 14 := fun z => c (by
      have := (nI_eq (a := h) (b := 14) (by omega) (by decide)).mp z
      exact this)
    have hl : (357 * nI h).toInt = ((357 * h : Nat) : Int) := by
      rw [show (357 : Int32) * nI h = nI (357 * h) from pk_mul 357 h, fc_nI (by omega)]
    have hcl : (357 * nI h).toNatClampNeg = 357 * h := by rw [fc_cl, hl]; omega
    refine ⟨o, h + 1, (te, ca, dr, lo, la, lp, set', count, free, dirty, holds', kl, kc', ql, qc', rt, rc, rl, rs, re, rb, told'), mX8_copy 357 row 4998 dia 0 (357 * nI h) 357, ?_, ?_, h1, by omega, fun i hi => ?_⟩
    · dsimp only
      rw [if_neg (show ¬ (14 : Int32) ≤ nI h from nI_ge (b := 14) (by omega) (by decide)), nI_1]
    · rw [if_neg ne14]
      dsimp only
      rw [nI_1]
    · have ed : mX8_copy 357 row 4998 dia 0 (357 * nI h) 357 = va_cpy row dia 0 (357 * h) 357 := by
        have := fx_copy (n0 := 357) (n1 := 4998) (f := row) (g := dia) (p1 := 0) (p3 := 357 * nI h) (p4 := 357) rfl (by decide) (by omega) (by decide)
        rw [hcl] at this
        exact this
      rw [ed]
      by_cases z : i = h
      · subst z
        dsimp only
        rw [if_pos rfl]
        refine hv.row (fun j hj => ?_)
        try dsimp only
        rw [pk_cpy_in (by omega) (by omega)]
        exact congrArg row (by omega)
      · have ne : ¬ (o + i) % 14 = (o + h) % 14 := by omega
        dsimp only
        rw [if_neg ne]
        refine (h3 i (by omega)).row (fun j hj => ?_)
        try dsimp only
        rw [pk_cpy_out (by omega)]
theorem P_undo (hR : RR Bd K W C B set holds count free dirty kc kl qc ql told rt rc rl rs re rb te ca dr lo la lp row) (ho : old = nI o) (hh : hln = nI h) (ha : ac = nI h) (hH : RH Bd h o sg dia) (hu : 0 < h → RS Bd (ute, uca, udr, ulo, ula, ulp, uset, ucount, ufree, udirty, uholds, ukl, ukc, uql, uqc, urt, urc, url, urs, ure, urb, utold) (fun j => dia (357 * (h - 1) + j))) :
    (mX7_undo f old hln set holds count free dirty kc kl qc ql told rt rc rl rs re rb te ca dr lo la lp uset uholds ucount ufree udirty ukc ukl uqc uql utold urt urc url urs ure urb ute uca udr ulo ula ulp = Sum.inl (fxE 1) ∧ mX8_undo rf ss sp ig lf ac row dia = (0, 1, ac, row)) ∨
    ∃ (v' : fcSV) (row' : Nat → Int32), mX7_undo f old hln set holds count free dirty kc kl qc ql told rt rc rl rs re rb te ca dr lo la lp uset uholds ucount ufree udirty ukc ukl uqc uql utold urt urc url urs ure urb ute uca udr ulo ula ulp = Sum.inr (nI (h - 1), v'.1, v'.2.1, v'.2.2.1, v'.2.2.2.1, v'.2.2.2.2.1, v'.2.2.2.2.2.1, v'.2.2.2.2.2.2.1, v'.2.2.2.2.2.2.2.1, v'.2.2.2.2.2.2.2.2.1, v'.2.2.2.2.2.2.2.2.2.1, v'.2.2.2.2.2.2.2.2.2.2.1, v'.2.2.2.2.2.2.2.2.2.2.2.1, v'.2.2.2.2.2.2.2.2.2.2.2.2.1, v'.2.2.2.2.2.2.2.2.2.2.2.2.2.1, v'.2.2.2.2.2.2.2.2.2.2.2.2.2.2.1, v'.2.2.2.2.2.2.2.2.2.2.2.2.2.2.2.1, v'.2.2.2.2.2.2.2.2.2.2.2.2.2.2.2.2.1, v'.2.2.2.2.2.2.2.2.2.2.2.2.2.2.2.2.2.1, v'.2.2.2.2.2.2.2.2.2.2.2.2.2.2.2.2.2.2.1, v'.2.2.2.2.2.2.2.2.2.2.2.2.2.2.2.2.2.2.2.1, v'.2.2.2.2.2.2.2.2.2.2.2.2.2.2.2.2.2.2.2.2.1, v'.2.2.2.2.2.2.2.2.2.2.2.2.2.2.2.2.2.2.2.2.2, nI (h - 1)) ∧ mX8_undo rf ss sp ig lf ac row dia = (nI (h - 1), 0, nI (h - 1), row') ∧ RS Bd v' row' ∧ RH Bd (h - 1) o sg dia ∧ 0 < h := by
  obtain ⟨h1, h2, h3⟩ := hH
  subst ho hh ha
  unfold mX7_undo mX8_undo
  by_cases c : h = 0
  · subst c
    left
    rw [if_pos (show nI 0 = 0 from rfl), if_pos (show nI 0 = 0 from rfl)]
    exact ⟨rfl, rfl⟩
  · right
    have ne : ¬ nI h = 0 := nI_ne0 (by omega) (by omega)
    have e1 : nI h - 1 = nI (h - 1) := by show nI h - nI 1 = _; rw [pk_sub (by omega)]
    rw [if_neg ne, if_neg ne, e1]
    obtain ⟨K2, W2, C2, B2, hR2⟩ := hu (by omega)
    obtain ⟨set', holds', kc', qc', told', e2, e3⟩ := R_copyFrom (gset := set) (gholds := holds) (gcount := count) (gfree := free) (gdirty := dirty) (gkc := kc) (gkl := kl) (gqc := qc) (gql := ql) (gtold := told) (grt := rt) (grc := rc) (grl := rl) (grs := rs) (gre := re) (grb := rb) (gte := te) (gca := ca) (gdr := dr) (glo := lo) (gla := la) (glp := lp) hR2
    have hl : (357 * nI (h - 1)).toInt = ((357 * (h - 1) : Nat) : Int) := by
      rw [show (357 : Int32) * nI (h - 1) = nI (357 * (h - 1)) from pk_mul 357 (h - 1), fc_nI (by omega)]
    have hcl : (357 * nI (h - 1)).toNatClampNeg = 357 * (h - 1) := by rw [fc_cl, hl]; omega
    have ed : mX8_copy 4998 dia 357 row (357 * nI (h - 1)) 0 357 = va_cpy dia row (357 * (h - 1)) 0 357 := by
      have := fx_copy (n0 := 4998) (n1 := 357) (f := dia) (g := row) (p1 := 357 * nI (h - 1)) (p3 := 0) (p4 := 357) rfl (by omega) (by decide) (by decide)
      rw [hcl] at this
      exact this
    refine ⟨(ute, uca, udr, ulo, ula, ulp, set', ucount, ufree, udirty, holds', ukl, kc', uql, qc', urt, urc, url, urs, ure, urb, told'), va_cpy dia row (357 * (h - 1)) 0 357, ?_, ?_, ?_, ⟨h1, by omega, fun i hi => h3 i (by omega)⟩, by omega⟩
    · unfold mX2_takeBack
      rw [e2]
      dsimp only
      rw [e1]
    · dsimp only
      rw [ed]
    · refine RS.row (row := fun j => dia (357 * (h - 1) + j)) ⟨K2, W2, C2, B2, e3⟩ (fun j hj => ?_)
      rw [pk_cpy_in (Nat.zero_le _) (by omega)]
      congr 1
theorem px_isPic7 {p0 : Int32} : mX7_isPicture p0 = if 0 ≤ p0.toInt ∧ p0.toInt ≤ 999999 then 1 else 0 := by
  have l0 : (0 : Int32).toInt = 0 := by decide
  have l9 : (999999 : Int32).toInt = 999999 := by decide
  unfold mX7_isPicture
  by_cases c1 : p0.toInt < 0
  · rw [if_pos (show p0 < 0 by rw [fc_lt]; omega)]
    exact (if_neg (by omega)).symm
  · rw [if_neg (show ¬ p0 < 0 by rw [fc_lt]; omega)]
    by_cases c2 : p0.toInt ≤ 999999
    · rw [if_neg (show ¬ 999999 < p0 by rw [fc_lt]; omega)]
      exact (if_pos (by omega)).symm
    · rw [if_pos (show 999999 < p0 by rw [fc_lt]; omega)]
      exact (if_neg (by omega)).symm
theorem px_isPic8 {p0 : Int32} : mX8_isPicture p0 = if 0 ≤ p0.toInt ∧ p0.toInt ≤ 999999 then 1 else 0 := px_in (show (0 : Int64).toInt = 0 by decide) (show (999999 : Int64).toInt = 999999 by decide)
theorem px_isTicks7 {p0 : Int32} : mX7_isTicks p0 = if 1 ≤ p0.toInt ∧ p0.toInt ≤ 50 then 1 else 0 := by
  have l0 : (1 : Int32).toInt = 1 := by decide
  have l9 : (50 : Int32).toInt = 50 := by decide
  unfold mX7_isTicks
  by_cases c1 : p0.toInt < 1
  · rw [if_pos (show p0 < 1 by rw [fc_lt]; omega)]
    exact (if_neg (by omega)).symm
  · rw [if_neg (show ¬ p0 < 1 by rw [fc_lt]; omega)]
    by_cases c2 : p0.toInt ≤ 50
    · rw [if_neg (show ¬ 50 < p0 by rw [fc_lt]; omega)]
      exact (if_pos (by omega)).symm
    · rw [if_pos (show 50 < p0 by rw [fc_lt]; omega)]
      exact (if_neg (by omega)).symm
theorem px_isTicks8 {p0 : Int32} : mX8_isTicks p0 = if 1 ≤ p0.toInt ∧ p0.toInt ≤ 50 then 1 else 0 := px_in (show (1 : Int64).toInt = 1 by decide) (show (50 : Int64).toInt = 50 by decide)
theorem px_set7 {w v lo hi : Int32} {n : Nat} {L H : Int} (hw : w = nI n) (hn : n < 3) (e1 : fcS1 n = lo) (e2 : fcS2 n = hi) (hL : lo.toInt = L) (hH : hi.toInt = H) : mX7_isSetting w v = if L ≤ v.toInt ∧ v.toInt ≤ H then 1 else 0 := by
  subst hw e1 e2 hL hH
  unfold mX7_isSetting
  rw [if_neg (nI_pos (by omega)), if_neg (show ¬ (3 : Int32) ≤ nI n from nI_ge (b := 3) hn (by decide)), nI_clamp (by omega)]
  by_cases c1 : v.toInt < (fcS1 n).toInt
  · rw [if_pos (show v < fcS1 n by rw [fc_lt]; omega)]
    exact (if_neg (by omega)).symm
  · rw [if_neg (show ¬ v < fcS1 n by rw [fc_lt]; omega)]
    by_cases c2 : v.toInt ≤ (fcS2 n).toInt
    · rw [if_neg (show ¬ fcS2 n < v by rw [fc_lt]; omega)]
      exact (if_pos (by omega)).symm
    · rw [if_pos (show fcS2 n < v by rw [fc_lt]; omega)]
      exact (if_neg (by omega)).symm
theorem px_isSet (w v : Int32) : mX7_isSetting w v = mX8_isSetting w v := by
  have l0 : (0 : Int32).toInt = 0 := by decide
  have l3 : (3 : Int32).toInt = 3 := by decide
  unfold mX8_isSetting
  dsimp only
  have fin : ∀ {a b : Int}, (if (if a ≤ v.toInt ∧ v.toInt ≤ b then (1 : Int32) else 0) = 0 then (0 : Int32) else 1) = if a ≤ v.toInt ∧ v.toInt ≤ b then 1 else 0 := by
    intro a b
    by_cases c : a ≤ v.toInt ∧ v.toInt ≤ b
    · rw [if_pos c, if_neg (by decide)]
    · rw [if_neg c, if_pos rfl]
  by_cases h0 : w = 0
  · rw [if_pos h0, px_in (show (0 : Int64).toInt = 0 by decide) (show (8 : Int64).toInt = 8 by decide), fin]
    exact px_set7 (n := 0) h0 (by decide) rfl rfl (by decide) (by decide)
  · rw [if_neg h0]
    by_cases h1 : w = 1
    · rw [if_pos h1, px_in (show (0 : Int64).toInt = 0 by decide) (show (9 : Int64).toInt = 9 by decide), fin]
      exact px_set7 (n := 1) h1 (by decide) rfl rfl (by decide) (by decide)
    · rw [if_neg h1]
      by_cases h2 : w = 2
      · rw [if_pos h2, px_in (show (1 : Int64).toInt = 1 by decide) (show (20 : Int64).toInt = 20 by decide), fin]
        exact px_set7 (n := 2) h2 (by decide) rfl rfl (by decide) (by decide)
      · rw [if_neg h2]
        have l1 : (1 : Int32).toInt = 1 := by decide
        have l2 : (2 : Int32).toInt = 2 := by decide
        rw [fc_eq] at h0 h1 h2
        unfold mX7_isSetting
        by_cases c1 : w.toInt < 0
        · rw [if_pos (show w < 0 by rw [fc_lt]; omega)]
        · rw [if_neg (show ¬ w < 0 by rw [fc_lt]; omega), if_pos (show 3 ≤ w by rw [fc_le]; omega)]
theorem P_shoot {p0 : Int32} (hR : RR Bd K W C B set holds count free dirty kc kl qc ql told rt rc rl rs re rb te ca dr lo la lp row) (ho : old = nI o) (hh : hln = nI h) (ha : ac = nI h) (hH : RH Bd h o sg dia) (hB : Bd < 1000000000) : (mX7_shoot f old hln set holds count free dirty kc kl qc ql told rt rc rl rs re rb te ca dr lo la lp uset uholds ucount ufree udirty ukc ukl uqc uql utold urt urc url urs ure urb ute uca udr ulo ula ulp p0 = Sum.inl (fxE 0) ∧ mX8_shoot rf ss sp ig lf ac row dia p0 = (0, 1, ac, row, dia)) ∨
    ∃ (r : Int32) (ca2 : Int32) (lo2 : Int32) (lp2 : Int32) (ql2 : Int32) (qc2 : Nat → Int32) (rc2 : Int32) (rl2 : Int32) (o' h' : Nat) (v' : fcSV) (row' dia' : Nat → Int32), mX7_shoot f old hln set holds count free dirty kc kl qc ql told rt rc rl rs re rb te ca dr lo la lp uset uholds ucount ufree udirty ukc ukl uqc uql utold urt urc url urs ure urb ute uca udr ulo ula ulp p0 = Sum.inr (r, ca2, lo2, lp2, ql2, qc2, rc2, rl2, nI o', nI h', v') ∧ mX8_shoot rf ss sp ig lf ac row dia p0 = (r, 0, nI h', row', dia') ∧ RS (Bd + 1) (te, ca2, dr, lo2, la, lp2, set, count, free, dirty, holds, kl, kc, ql2, qc2, rt, rc2, rl2, rs, re, rb, told) row' ∧ RH Bd h' o' (fun i => if i = (o + h) % 14 then v' else sg i) dia' := by
  unfold mX7_shoot mX8_shoot
  rw [px_isPic7, px_isPic8]
  by_cases c : 0 ≤ p0.toInt ∧ p0.toInt ≤ 999999
  · right
    rw [if_pos c]
    dsimp only
    rw [if_neg (show ¬ (1 : Int32) = 0 by decide), if_neg (show ¬ (1 : Int32) = 0 by decide)]
    obtain ⟨o', h', v', dia', e1, e2, e3⟩ := P_remember (f := f) (rf := 0) (ss := ss) (sp := sp) (ig := ig) (lf := lf) (uset := uset) (uholds := uholds) (ucount := ucount) (ufree := ufree) (udirty := udirty) (ukc := ukc) (ukl := ukl) (uqc := uqc) (uql := uql) (utold := utold) (urt := urt) (urc := urc) (url := url) (urs := urs) (ure := ure) (urb := urb) (ute := ute) (uca := uca) (udr := udr) (ulo := ulo) (ula := ula) (ulp := ulp) hR ho hh ha hH
    rw [e1, e2]
    dsimp only
    have w4 := (RR_cnt hR).2.2.2.2.2
    by_cases hW : W < 4
    · obtain ⟨qc', row2, g1, g2, g3⟩ := R_receive hR hW c.1 hB
      rw [g1, g2]
      exact ⟨_, _, _, _, _, _, _, _, o', h', v', _, dia', rfl, rfl, ⟨K, W + 1, C, B, g3⟩, e3⟩
    · obtain rfl : W = 4 := by omega
      obtain ⟨g1, row2, g2, g3⟩ := R_receive_full hR c.1 hB
      rw [g1, g2]
      exact ⟨_, _, _, _, _, _, _, _, o', h', v', _, dia', rfl, rfl, ⟨K, 4, C, B, g3⟩, e3⟩
  · left
    rw [if_neg c]
    exact ⟨rfl, rfl⟩
theorem P_ticks {p0 : Int32} (hR : RR Bd K W C B set holds count free dirty kc kl qc ql told rt rc rl rs re rb te ca dr lo la lp row) (ho : old = nI o) (hh : hln = nI h) (ha : ac = nI h) (hH : RH Bd h o sg dia) (hB : Bd + 51 < 1000000000) : (mX7_ticks f old hln set holds count free dirty kc kl qc ql told rt rc rl rs re rb te ca dr lo la lp uset uholds ucount ufree udirty ukc ukl uqc uql utold urt urc url urs ure urb ute uca udr ulo ula ulp p0 = Sum.inl (fxE 0) ∧ mX8_ticks rf ss sp ig lf ac row dia p0 = (0, 1, ac, row, dia)) ∨
    ∃ (r : Int32) (te2 : Int32) (dr2 : Int32) (la2 : Int32) (free2 : Int32) (dirty2 : Int32) (holds2 : Nat → Int32) (kl2 : Int32) (kc2 : Nat → Int32) (ql2 : Int32) (qc2 : Nat → Int32) (rt2 : Int32) (rc2 : Int32) (rl2 : Int32) (rs2 : Int32) (re2 : Int32) (rb2 : Int32) (told2 : Nat → Int32) (o' h' : Nat) (v' : fcSV) (row' dia' : Nat → Int32), mX7_ticks f old hln set holds count free dirty kc kl qc ql told rt rc rl rs re rb te ca dr lo la lp uset uholds ucount ufree udirty ukc ukl uqc uql utold urt urc url urs ure urb ute uca udr ulo ula ulp p0 = Sum.inr (r, te2, dr2, la2, free2, dirty2, holds2, kl2, kc2, ql2, qc2, rt2, rc2, rl2, rs2, re2, rb2, told2, nI o', nI h', v') ∧ mX8_ticks rf ss sp ig lf ac row dia p0 = (r, 0, nI h', row', dia') ∧ RS (Bd + 51) (te2, ca, dr2, lo, la2, lp, set, count, free2, dirty2, holds2, kl2, kc2, ql2, qc2, rt2, rc2, rl2, rs2, re2, rb2, told2) row' ∧ RH Bd h' o' (fun i => if i = (o + h) % 14 then v' else sg i) dia' := by
  unfold mX7_ticks mX8_ticks
  rw [px_isTicks7, px_isTicks8]
  by_cases c : 1 ≤ p0.toInt ∧ p0.toInt ≤ 50
  · right
    rw [if_pos c]
    dsimp only
    rw [if_neg (show ¬ (1 : Int32) = 0 by decide), if_neg (show ¬ (1 : Int32) = 0 by decide)]
    obtain ⟨o', h', v', dia', e1, e2, e3⟩ := P_remember (f := f) (rf := 0) (ss := ss) (sp := sp) (ig := ig) (lf := lf) (uset := uset) (uholds := uholds) (ucount := ucount) (ufree := ufree) (udirty := udirty) (ukc := ukc) (ukl := ukl) (uqc := uqc) (uql := uql) (utold := utold) (urt := urt) (urc := urc) (url := url) (urs := urs) (ure := ure) (urb := urb) (ute := ute) (uca := uca) (udr := udr) (ulo := ulo) (ula := ula) (ulp := ulp) hR ho hh ha hH
    rw [e1, e2]
    dsimp only
    obtain ⟨K', W', B', r, free', dirty', holds', kl', kc', ql', qc', rt', rc', rl', rs', re', rb', told', te', dr', la', row2, g1, g2, g3⟩ := R_pass hR c.2 hB
    rw [g1, g2]
    exact ⟨_, _, _, _, _, _, _, _, _, _, _, _, _, _, _, _, _, _, o', h', v', _, dia', rfl, rfl, ⟨K', W', C, B', g3⟩, e3⟩
  · left
    rw [if_neg c]
    exact ⟨rfl, rfl⟩
theorem P_drop {p0 : Int32} (hR : RR Bd K W C B set holds count free dirty kc kl qc ql told rt rc rl rs re rb te ca dr lo la lp row) (ho : old = nI o) (hh : hln = nI h) (ha : ac = nI h) (hH : RH Bd h o sg dia) : (mX7_drop f old hln set holds count free dirty kc kl qc ql told rt rc rl rs re rb te ca dr lo la lp uset uholds ucount ufree udirty ukc ukl uqc uql utold urt urc url urs ure urb ute uca udr ulo ula ulp p0 = Sum.inl (fxE 2) ∧ mX8_drop rf ss sp ig lf ac row dia p0 = (0, 1, ac, row, dia)) ∨
    ∃ (r : Int32) (dr2 : Int32) (dirty2 : Int32) (holds2 : Nat → Int32) (kl2 : Int32) (kc2 : Nat → Int32) (o' h' : Nat) (v' : fcSV) (row' dia' : Nat → Int32), mX7_drop f old hln set holds count free dirty kc kl qc ql told rt rc rl rs re rb te ca dr lo la lp uset uholds ucount ufree udirty ukc ukl uqc uql utold urt urc url urs ure urb ute uca udr ulo ula ulp p0 = Sum.inr (r, dr2, dirty2, holds2, kl2, kc2, nI o', nI h', v') ∧ mX8_drop rf ss sp ig lf ac row dia p0 = (r, 0, nI h', row', dia') ∧ RS (Bd + 0) (te, ca, dr2, lo, la, lp, set, count, free, dirty2, holds2, kl2, kc2, ql, qc, rt, rc, rl, rs, re, rb, told) row' ∧ RH Bd h' o' (fun i => if i = (o + h) % 14 then v' else sg i) dia' := by
  obtain ⟨k1, k2, k3, -, -, -⟩ := RR_cnt hR
  unfold mX7_drop mX8_drop
  rw [px_isFrame k2 k3, show mX1_has kl p0 = if 0 ≤ p0.toInt ∧ p0.toInt < K then 1 else 0 by rw [k1]; exact px_has (by omega)]
  by_cases c : 0 ≤ p0.toInt ∧ p0.toInt < K
  · right
    rw [if_pos c]
    dsimp only
    rw [if_neg (show ¬ (1 : Int32) = 0 by decide), if_neg (show ¬ (1 : Int32) = 0 by decide)]
    obtain ⟨o', h', v', dia', e1, e2, e3⟩ := P_remember (f := f) (rf := 0) (ss := ss) (sp := sp) (ig := ig) (lf := lf) (uset := uset) (uholds := uholds) (ucount := ucount) (ufree := ufree) (udirty := udirty) (ukc := ukc) (ukl := ukl) (uqc := uqc) (uql := uql) (utold := utold) (urt := urt) (urc := urc) (url := url) (urs := urs) (ure := ure) (urb := urb) (ute := ute) (uca := uca) (udr := udr) (ulo := ulo) (ula := ula) (ulp := ulp) hR ho hh ha hH
    rw [e1, e2]
    dsimp only
    obtain ⟨e, -, z⟩ := fx_nn c.1
    obtain ⟨d', h9, kc', row2, g1, g2, g3⟩ := R_drop hR (show p0.toNatClampNeg < K by omega)
    rw [← e] at g1 g2
    rw [g1, g2]
    exact ⟨_, _, _, _, _, _, o', h', v', _, dia', rfl, rfl, ⟨K - 1, W, C, B, g3⟩, e3⟩
  · left
    rw [if_neg c]
    exact ⟨rfl, rfl⟩
theorem r_format_L {row0 : Nat → Int32} {p0 ac7 : Int32} {dia7 : Nat → Int32} : ∀ (k b : Nat) (r : Nat → Int32), b ≤ 48 → 48 < b + k → (∀ j, r j = if 19 ≤ j ∧ j < 19 + b then -1 else row0 j) →
    mX8_format_L84 ss sp ig lf row p0 ac7 dia7 k (nI b) r = (row (16 : Int32).toNatClampNeg + row (17 : Int32).toNatClampNeg, 0, ac7, (fun j => if 19 ≤ j ∧ j < 67 then -1 else row0 j), dia7) := by
  intro k
  induction k with
  | zero => intro b r h1 h2; omega
  | succ k ih =>
    intro b r h1 h2 hf
    rw [mX8_format_L84_s, mX8_format_S84]
    by_cases e : b = 48
    · subst e
      rw [if_pos (show (48 : Int32) ≤ nI 48 from nI_le (a := 48) (Nat.le_refl _) (by decide))]
      have ef : r = fun j => if 19 ≤ j ∧ j < 67 then -1 else row0 j := by
        funext j; exact hf j
      rw [ef]
    · rw [if_neg (show ¬ (48 : Int32) ≤ nI b from nI_ge (show b < 48 by omega) (by decide)), p19, nI_clamp (by omega), nI_1]
      refine ih (b + 1) _ (by omega) (by omega) (fun j => ?_)
      by_cases q : j = 19 + b
      · subst q; rw [pu_eq, if_pos (by omega)]
      · rw [pu_ne q, hf]
        by_cases q2 : 19 ≤ j ∧ j < 19 + b
        · rw [if_pos q2, if_pos (by omega)]
        · rw [if_neg q2, if_neg (by omega)]
/-- all frames dropped: the two sides' states -/
theorem R_format {C2 : Nat} (hR : RR Bd K W C B set holds count free dirty kc kl qc ql told rt rc rl rs re rb te ca dr lo la lp row) (hC : 8 ≤ C2 ∧ C2 ≤ 48) : RR Bd 0 0 C2 B set (fun j => if j < 48 then -1 else holds j) (nI C2) (nI C2) 0 kc 0 qc 0 told rt rc rl rs re rb te ca (dr + (kl + ql)) lo la lp
    (fun j => if 19 ≤ j ∧ j < 67 then -1 else upd (upd (upd (upd row 6 (row 6 + (row 16 + row 17))) 16 0) 17 0) 3 (nI C2) j) := by
  have l0 : (0 : Int32).toInt = 0 := by decide
  obtain ⟨⟨⟨⟨⟨s0, s1, s2⟩, s4, s5, s6, s7, s8⟩, s9, s10, s11, s12, s13, s14, s15⟩, ⟨⟨⟨n1, n2⟩, ⟨n3, n4⟩, ⟨n5, n6⟩, n7, n8⟩, w4, c8, c48⟩, hBl, hfr, hdi⟩, ⟨hKe, hQu, hNu⟩, hTo, hBd⟩ := hR
  have hca := hBd.2.1.1
  have e1 : pcnt (fun j => if j < 48 then (-1 : Int32) else holds j) (-1) C2 = C2 := pcnt_all (fun j hj => by rw [if_pos (by omega)])
  have e2 : pcnt (fun j => if j < 48 then (-1 : Int32) else holds j) (-2) C2 = 0 := pcnt_0.mpr (fun j hj => by rw [if_pos (by omega)]; decide)
  have rz : ∀ j, (j < 19 ∨ 67 ≤ j) → j ≠ 6 → j ≠ 16 → j ≠ 17 → j ≠ 3 → (if 19 ≤ j ∧ j < 67 then (-1 : Int32) else upd (upd (upd (upd row 6 (row 6 + (row 16 + row 17))) 16 0) 17 0) 3 (nI C2) j) = row j := by
    intro j h1 h2 h3 h4 h5
    rw [if_neg (by omega), pu_ne h5, pu_ne h4, pu_ne h3, pu_ne h2]
  refine ⟨⟨⟨⟨⟨?_, ?_, ?_⟩, ?_, ?_, ?_, ?_, ?_⟩, ?_, ?_, ?_, ?_, ?_, ?_, ?_⟩, ⟨⟨⟨rfl, ?_⟩, ⟨rfl, ?_⟩, ⟨rfl, ?_⟩, n7, ?_⟩, by omega, hC.1, hC.2⟩, fun b hb => ?_, by rw [e1], by rw [e2]; rfl⟩, ⟨fun i hi => absurd hi (Nat.not_lt_zero _), fun i hi => absurd hi (Nat.not_lt_zero _), fun i j hij hj => by omega, fun i hi => by omega, fun b hb => ⟨?_, fun i q1 q2 => by omega⟩⟩, ?_, hBd⟩
  · dsimp only; rw [rz 0 (by omega) (by omega) (by omega) (by omega) (by omega)]; exact s0
  · dsimp only; rw [rz 1 (by omega) (by omega) (by omega) (by omega) (by omega)]; exact s1
  · dsimp only; rw [rz 2 (by omega) (by omega) (by omega) (by omega) (by omega)]; exact s2
  · dsimp only; rw [rz 4 (by omega) (by omega) (by omega) (by omega) (by omega)]; exact s4
  · dsimp only; rw [rz 5 (by omega) (by omega) (by omega) (by omega) (by omega)]; exact s5
  · dsimp only
    rw [if_neg (by omega), pu_ne (by omega), pu_ne (by omega), pu_ne (by omega), pu_eq, s6, n1, n3, n2, n4]
  · dsimp only; rw [rz 7 (by omega) (by omega) (by omega) (by omega) (by omega)]; exact s7
  · dsimp only; rw [rz 8 (by omega) (by omega) (by omega) (by omega) (by omega)]; exact s8
  · dsimp only; rw [rz 9 (by omega) (by omega) (by omega) (by omega) (by omega)]; exact s9
  · dsimp only; rw [rz 10 (by omega) (by omega) (by omega) (by omega) (by omega)]; exact s10
  · dsimp only; rw [rz 11 (by omega) (by omega) (by omega) (by omega) (by omega)]; exact s11
  · dsimp only; rw [rz 12 (by omega) (by omega) (by omega) (by omega) (by omega)]; exact s12
  · dsimp only; rw [rz 13 (by omega) (by omega) (by omega) (by omega) (by omega)]; exact s13
  · dsimp only; rw [rz 14 (by omega) (by omega) (by omega) (by omega) (by omega)]; exact s14
  · dsimp only; rw [rz 15 (by omega) (by omega) (by omega) (by omega) (by omega)]; exact s15
  · dsimp only; rw [if_neg (by omega), pu_ne (by omega), pu_ne (by omega), pu_eq]; rfl
  · dsimp only; rw [if_neg (by omega), pu_ne (by omega), pu_eq]; rfl
  · dsimp only; rw [if_neg (by omega), pu_eq]
  · dsimp only; rw [rz 18 (by omega) (by omega) (by omega) (by omega) (by omega)]; exact n8
  · dsimp only; rw [if_pos (by omega), if_pos (by omega)]
  · dsimp only
    rw [if_pos (by omega)]
    have : (-1 : Int32).toInt = -1 := pz_1
    omega
  · intro k hk j hj
    rw [hTo k hk j hj]
    dsimp only
    rw [rz (327 + 3 * k + j) (by omega) (by omega) (by omega) (by omega) (by omega)]
theorem P_format {p0 : Int32} (hR : RR Bd K W C B set holds count free dirty kc kl qc ql told rt rc rl rs re rb te ca dr lo la lp row) (ho : old = nI o) (hh : hln = nI h) (ha : ac = nI h) (hH : RH Bd h o sg dia) : (mX7_format f old hln set holds count free dirty kc kl qc ql told rt rc rl rs re rb te ca dr lo la lp uset uholds ucount ufree udirty ukc ukl uqc uql utold urt urc url urs ure urb ute uca udr ulo ula ulp p0 = Sum.inl (fxE 0) ∧ mX8_format rf ss sp ig lf ac row dia p0 = (0, 1, ac, row, dia)) ∨
    ∃ (r : Int32) (dr2 : Int32) (count2 : Int32) (free2 : Int32) (dirty2 : Int32) (holds2 : Nat → Int32) (kl2 : Int32) (ql2 : Int32) (o' h' : Nat) (v' : fcSV) (row' dia' : Nat → Int32), mX7_format f old hln set holds count free dirty kc kl qc ql told rt rc rl rs re rb te ca dr lo la lp uset uholds ucount ufree udirty ukc ukl uqc uql utold urt urc url urs ure urb ute uca udr ulo ula ulp p0 = Sum.inr (r, dr2, count2, free2, dirty2, holds2, kl2, ql2, nI o', nI h', v') ∧ mX8_format rf ss sp ig lf ac row dia p0 = (r, 0, nI h', row', dia') ∧ RS (Bd + 0) (te, ca, dr2, lo, la, lp, set, count2, free2, dirty2, holds2, kl2, kc, ql2, qc, rt, rc, rl, rs, re, rb, told) row' ∧ RH Bd h' o' (fun i => if i = (o + h) % 14 then v' else sg i) dia' := by
  have l8 : (8 : Int32).toInt = 8 := by decide
  have l48 : (48 : Int32).toInt = 48 := by decide
  unfold mX7_format mX8_format
  by_cases c1 : p0.toInt < 8
  · left
    rw [if_pos (show p0 < 8 by rw [fc_lt]; omega), px_in0 (show (8 : Int64).toInt = 8 by decide) (show (48 : Int64).toInt = 48 by decide) (by omega)]
    exact ⟨rfl, rfl⟩
  · rw [if_neg (show ¬ p0 < 8 by rw [fc_lt]; omega)]
    by_cases c2 : p0.toInt ≤ 48
    · right
      rw [if_pos (show p0 ≤ 48 by rw [fc_le]; omega), px_in1 (show (8 : Int64).toInt = 8 by decide) (show (48 : Int64).toInt = 48 by decide) (by omega)]
      dsimp only
      rw [if_neg (show ¬ (1 : Int32) = 0 by decide)]
      obtain ⟨o', h', v', dia', e1, e2, e3⟩ := P_remember (f := f) (rf := 0) (ss := ss) (sp := sp) (ig := ig) (lf := lf) (uset := uset) (uholds := uholds) (ucount := ucount) (ufree := ufree) (udirty := udirty) (ukc := ukc) (ukl := ukl) (uqc := uqc) (uql := uql) (utold := utold) (urt := urt) (urc := urc) (url := url) (urs := urs) (ure := ure) (urb := urb) (ute := ute) (uca := uca) (udr := udr) (ulo := ulo) (ula := ula) (ulp := ulp) hR ho hh ha hH
      rw [e1, e2]
      dsimp only
      obtain ⟨e, -, z⟩ := fx_nn (x := p0) (by omega)
      have hC : 8 ≤ p0.toNatClampNeg ∧ p0.toNatClampNeg ≤ 48 := by omega
      have hF := R_format (C2 := p0.toNatClampNeg) hR hC
      rw [← e] at hF
      have hk := RR_cnt hR
      have hL := r_format_L (ss := ss) (sp := sp) (ig := ig) (lf := lf) (row := row) (p0 := p0) (ac7 := nI h') (dia7 := dia') (row0 := upd (upd (upd (upd row 6 (row 6 + (row 16 + row 17))) 16 0) 17 0) 3 p0) 49 0 (upd (upd (upd (upd row 6 (row 6 + (row 16 + row 17))) 16 0) 17 0) 3 p0) (by omega) (by omega) (fun j => by rw [if_neg (by omega)])
      unfold mX5_dropAll
      rw [r_begin0]
      dsimp only
      simp only [pl_lit6, pl_lit16, pl_lit17, pl_3]
      simp only [pl_lit16, pl_lit17] at hL
      rw [show (0 : Int32) = nI 0 from rfl] at *
      refine ⟨kl + ql, _, _, _, _, _, _, _, o', h', v', _, dia', rfl, ?_, ⟨0, 0, _, B, hF⟩, e3⟩
      rw [hk.1, hk.2.2.2.1, ← hk.2.1, ← hk.2.2.2.2.1]
      exact hL
    · left
      rw [if_neg (show ¬ p0 ≤ 48 by rw [fc_le]; omega), px_in0 (show (8 : Int64).toInt = 8 by decide) (show (48 : Int64).toInt = 48 by decide) (by omega)]
      exact ⟨rfl, rfl⟩
theorem P_set {p0 p1 : Int32} (hR : RR Bd K W C B set holds count free dirty kc kl qc ql told rt rc rl rs re rb te ca dr lo la lp row) (ho : old = nI o) (hh : hln = nI h) (ha : ac = nI h) (hH : RH Bd h o sg dia) : (mX7_set f old hln set holds count free dirty kc kl qc ql told rt rc rl rs re rb te ca dr lo la lp uset uholds ucount ufree udirty ukc ukl uqc uql utold urt urc url urs ure urb ute uca udr ulo ula ulp p0 p1 = Sum.inl (fxE 0) ∧ mX8_set rf ss sp ig lf ac row dia p0 p1 = (0, 1, ac, row, dia)) ∨
    ∃ (r : Int32) (set2 : Nat → Int32) (o' h' : Nat) (v' : fcSV) (row' dia' : Nat → Int32), mX7_set f old hln set holds count free dirty kc kl qc ql told rt rc rl rs re rb te ca dr lo la lp uset uholds ucount ufree udirty ukc ukl uqc uql utold urt urc url urs ure urb ute uca udr ulo ula ulp p0 p1 = Sum.inr (r, set2, nI o', nI h', v') ∧ mX8_set rf ss sp ig lf ac row dia p0 p1 = (r, 0, nI h', row', dia') ∧ RS (Bd + 0) (te, ca, dr, lo, la, lp, set2, count, free, dirty, holds, kl, kc, ql, qc, rt, rc, rl, rs, re, rb, told) row' ∧ RH Bd h' o' (fun i => if i = (o + h) % 14 then v' else sg i) dia' := by
  unfold mX7_set mX8_set
  rw [px_isSet]
  by_cases c : mX8_isSetting p0 p1 = 0
  · left
    rw [if_pos c, if_pos c]
    exact ⟨rfl, rfl⟩
  · right
    have hs := (fx_isSet8v (w := p0) (v := p1) rfl).resolve_left c
    rw [if_neg c, if_neg c]
    obtain ⟨o', h', v', dia', e1, e2, e3⟩ := P_remember (f := f) (rf := 0) (ss := ss) (sp := sp) (ig := ig) (lf := lf) (uset := uset) (uholds := uholds) (ucount := ucount) (ufree := ufree) (udirty := udirty) (ukc := ukc) (ukl := ukl) (uqc := uqc) (uql := uql) (utold := utold) (urt := urt) (urc := urc) (url := url) (urs := urs) (ure := ure) (urb := urb) (ute := ute) (uca := uca) (udr := udr) (ulo := ulo) (ula := ula) (ulp := ulp) hR ho hh ha hH
    rw [e1, e2]
    dsimp only
    have l0 : (0 : Int32).toInt = 0 := by decide
    obtain ⟨w, hw, ew, hv⟩ : ∃ w : Nat, w < 3 ∧ p0 = nI w ∧ (w = 0 → ∃ p : Nat, p < 1000 ∧ p1 = nI p) := by
      rcases hs with ⟨q, q1, q2⟩ | ⟨q, q1, q2⟩ | ⟨q, q1, q2⟩
      · obtain ⟨e9, -, z9⟩ := fx_nn q1
        exact ⟨0, by omega, q, fun _ => ⟨p1.toNatClampNeg, by omega, e9⟩⟩
      · exact ⟨1, by omega, q, fun z => absurd z (by decide)⟩
      · exact ⟨2, by omega, q, fun z => absurd z (by decide)⟩
    obtain ⟨g1, g2⟩ := R_set (w := w) (v := p1) hR hw hv
    rw [ew, g1, nI_clamp (by omega)]
    exact ⟨_, _, o', h', v', _, dia', rfl, rfl, ⟨K, W, C, B, g2⟩, e3⟩
end
