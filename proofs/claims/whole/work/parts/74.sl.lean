/-! PURE: the slots, on both sides -/
/-- a slot: filled on both sides or on none; if filled, its state and its row belong together -/
def RF (Bd i : Nat) (f : Int32) (v : fcSV) (isk kpt : Nat → Int32) : Prop := (isk i = 0 ↔ f = 0) ∧ (¬ f = 0 → RS Bd v (fun j => kpt (357 * i + j)))
theorem RF.mono {Bd Bd' i : Nat} {f : Int32} {v : fcSV} {isk kpt : Nat → Int32} (h : RF Bd i f v isk kpt) (q : Bd ≤ Bd') : RF Bd' i f v isk kpt := ⟨h.1, fun z => (h.2 z).mono q⟩
theorem RF.none {Bd i : Nat} {v : fcSV} {isk kpt : Nat → Int32} (h : isk i = 0) : RF Bd i 0 v isk kpt := ⟨⟨fun _ => rfl, fun _ => h⟩, fun z => absurd rfl z⟩
section
variable {Bd K W C B : Nat} {te : Int32} {ca : Int32} {dr : Int32} {lo : Int32} {la : Int32} {lp : Int32} {set : Nat → Int32} {count : Int32} {free : Int32} {dirty : Int32} {holds : Nat → Int32} {kl : Int32} {kc : Nat → Int32} {ql : Int32} {qc : Nat → Int32} {rt : Int32} {rc : Int32} {rl : Int32} {rs : Int32} {re : Int32} {rb : Int32} {told : Nat → Int32} {row : Nat → Int32} {rf ss sp ig lf ac f0 f1 old hln : Int32} {kpt isk : Nat → Int32}
variable {ute : Int32} {uca : Int32} {udr : Int32} {ulo : Int32} {ula : Int32} {ulp : Int32} {uset : Nat → Int32} {ucount : Int32} {ufree : Int32} {udirty : Int32} {uholds : Nat → Int32} {ukl : Int32} {ukc : Nat → Int32} {uql : Int32} {uqc : Nat → Int32} {urt : Int32} {urc : Int32} {url : Int32} {urs : Int32} {ure : Int32} {urb : Int32} {utold : Nat → Int32}
variable {wte : Int32} {wca : Int32} {wdr : Int32} {wlo : Int32} {wla : Int32} {wlp : Int32} {wset : Nat → Int32} {wcount : Int32} {wfree : Int32} {wdirty : Int32} {wholds : Nat → Int32} {wkl : Int32} {wkc : Nat → Int32} {wql : Int32} {wqc : Nat → Int32} {wrt : Int32} {wrc : Int32} {wrl : Int32} {wrs : Int32} {wre : Int32} {wrb : Int32} {wtold : Nat → Int32}
theorem s_bool1 : ¬ vp_nar .boolean 1 = 0 := by decide
theorem s_cp0 {g : Nat → Int32} : mX8_copy 357 row 714 g 0 (357 * 0) 357 = va_cpy row g 0 0 357 := pcp (n0 := 357) (n1 := 714) (a := 0) (b := 0) (n := 357) (by omega) (by omega) (by omega)
theorem s_cp1 {g : Nat → Int32} : mX8_copy 357 row 714 g 0 (357 * 1) 357 = va_cpy row g 0 357 357 := pcp (n0 := 357) (n1 := 714) (a := 0) (b := 357) (n := 357) (by omega) (by omega) (by omega)
theorem s_cq0 {g : Nat → Int32} : mX8_copy 714 kpt 357 g (357 * 0) 0 357 = va_cpy kpt g 0 0 357 := pcp (n0 := 714) (n1 := 357) (a := 0) (b := 0) (n := 357) (by omega) (by omega) (by omega)
theorem s_cq1 {g : Nat → Int32} : mX8_copy 714 kpt 357 g (357 * 1) 0 357 = va_cpy kpt g 357 0 357 := pcp (n0 := 714) (n1 := 357) (a := 357) (b := 0) (n := 357) (by omega) (by omega) (by omega)
theorem P_save {p0 : Int32} (hR : RR Bd K W C B set holds count free dirty kc kl qc ql told rt rc rl rs re rb te ca dr lo la lp row) (h0 : RF Bd 0 f0 (ute, uca, udr, ulo, ula, ulp, uset, ucount, ufree, udirty, uholds, ukl, ukc, uql, uqc, urt, urc, url, urs, ure, urb, utold) isk kpt) (h1 : RF Bd 1 f1 (wte, wca, wdr, wlo, wla, wlp, wset, wcount, wfree, wdirty, wholds, wkl, wkc, wql, wqc, wrt, wrc, wrl, wrs, wre, wrb, wtold) isk kpt) : (mX7_save set holds count free dirty kc kl qc ql told rt rc rl rs re rb te ca dr lo la lp f0 uset uholds ucount ufree udirty ukc ukl uqc uql utold urt urc url urs ure urb ute uca udr ulo ula ulp f1 wset wholds wcount wfree wdirty wkc wkl wqc wql wtold wrt wrc wrl wrs wre wrb wte wca wdr wlo wla wlp p0 = Sum.inl (fxE 2) ∧ mX8_save rf ss sp ig lf ac row kpt isk p0 = (0, 1, kpt, isk)) ∨
    ∃ (r f0' f1' : Int32) (x y : fcSV) (kpt' isk' : Nat → Int32), mX7_save set holds count free dirty kc kl qc ql told rt rc rl rs re rb te ca dr lo la lp f0 uset uholds ucount ufree udirty ukc ukl uqc uql utold urt urc url urs ure urb ute uca udr ulo ula ulp f1 wset wholds wcount wfree wdirty wkc wkl wqc wql wtold wrt wrc wrl wrs wre wrb wte wca wdr wlo wla wlp p0 = Sum.inr (r, f0', x.1, x.2.1, x.2.2.1, x.2.2.2.1, x.2.2.2.2.1, x.2.2.2.2.2.1, x.2.2.2.2.2.2.1, x.2.2.2.2.2.2.2.1, x.2.2.2.2.2.2.2.2.1, x.2.2.2.2.2.2.2.2.2.1, x.2.2.2.2.2.2.2.2.2.2.1, x.2.2.2.2.2.2.2.2.2.2.2.1, x.2.2.2.2.2.2.2.2.2.2.2.2.1, x.2.2.2.2.2.2.2.2.2.2.2.2.2.1, x.2.2.2.2.2.2.2.2.2.2.2.2.2.2.1, x.2.2.2.2.2.2.2.2.2.2.2.2.2.2.2.1, x.2.2.2.2.2.2.2.2.2.2.2.2.2.2.2.2.1, x.2.2.2.2.2.2.2.2.2.2.2.2.2.2.2.2.2.1, x.2.2.2.2.2.2.2.2.2.2.2.2.2.2.2.2.2.2.1, x.2.2.2.2.2.2.2.2.2.2.2.2.2.2.2.2.2.2.2.1, x.2.2.2.2.2.2.2.2.2.2.2.2.2.2.2.2.2.2.2.2.1, x.2.2.2.2.2.2.2.2.2.2.2.2.2.2.2.2.2.2.2.2.2, f1', y) ∧ mX8_save rf ss sp ig lf ac row kpt isk p0 = (r, 0, kpt', isk') ∧ RF Bd 0 f0' x isk' kpt' ∧ RF Bd 1 f1' y isk' kpt' := by
  have l0 : (0 : Int32).toInt = 0 := by decide
  have l1 : (1 : Int32).toInt = 1 := by decide
  obtain ⟨k1, k2, k3, -, -, -⟩ := RR_cnt hR
  subst k1
  unfold mX7_save mX8_save
  rw [px_in (show (0 : Int64).toInt = 0 by decide) (show (1 : Int64).toInt = 1 by decide)]
  by_cases c1 : p0.toInt < 0
  · left
    rw [if_pos (show p0 < 0 by rw [fc_lt]; omega), if_neg (show ¬ (0 ≤ p0.toInt ∧ p0.toInt ≤ 1) by omega)]
    exact ⟨rfl, rfl⟩
  · rw [if_neg (show ¬ p0 < 0 by rw [fc_lt]; omega)]
    by_cases c2 : p0.toInt ≤ 1
    · right
      rw [if_pos (show p0 ≤ 1 by rw [fc_le]; omega), if_pos (show 0 ≤ p0.toInt ∧ p0.toInt ≤ 1 by omega)]
      dsimp only
      rw [if_neg px_10, pl_lit16, k2]
      by_cases c3 : p0 = 0
      · subst c3
        rw [if_pos rfl, s_cp0, pl_lit0]
        obtain ⟨set', holds', kc', qc', told', e1, e2⟩ := R_copyFrom (gset := uset) (gholds := uholds) (gcount := ucount) (gfree := ufree) (gdirty := udirty) (gkc := ukc) (gkl := ukl) (gqc := uqc) (gql := uql) (gtold := utold) (grt := urt) (grc := urc) (grl := url) (grs := urs) (gre := ure) (grb := urb) (gte := ute) (gca := uca) (gdr := udr) (glo := ulo) (gla := ula) (glp := ulp) hR
        rw [e1]
        dsimp only
        refine ⟨_, _, _, (te, ca, dr, lo, la, lp, set', count, free, dirty, holds', nI K, kc', ql, qc', rt, rc, rl, rs, re, rb, told'), (wte, wca, wdr, wlo, wla, wlp, wset, wcount, wfree, wdirty, wholds, wkl, wkc, wql, wqc, wrt, wrc, wrl, wrs, wre, wrb, wtold), _, _, rfl, rfl, ?_, ?_⟩
        · refine ⟨⟨fun z => ?_, fun z => absurd z px_10⟩, fun _ => ?_⟩
          · rw [pu_eq] at z
            exact absurd z s_bool1
          · refine RS.row ⟨K, W, C, B, e2⟩ (fun j hj => ?_)
            try dsimp only
            rw [pk_cpy_in (by omega) (by omega)]
            exact congrArg row (by omega)
        · refine ⟨?_, fun z => ?_⟩
          · rw [pu_ne (by omega)]
            exact h1.1
          · refine (h1.2 z).row (fun j hj => ?_)
            try dsimp only
            rw [pk_cpy_out (by omega)]
      · have c4 : p0 = 1 := by
          rw [fc_eq] at c3 ⊢
          omega
        subst c4
        rw [if_neg c3, s_cp1, pl_lit1]
        obtain ⟨set', holds', kc', qc', told', e1, e2⟩ := R_copyFrom (gset := wset) (gholds := wholds) (gcount := wcount) (gfree := wfree) (gdirty := wdirty) (gkc := wkc) (gkl := wkl) (gqc := wqc) (gql := wql) (gtold := wtold) (grt := wrt) (grc := wrc) (grl := wrl) (grs := wrs) (gre := wre) (grb := wrb) (gte := wte) (gca := wca) (gdr := wdr) (glo := wlo) (gla := wla) (glp := wlp) hR
        rw [e1]
        dsimp only
        refine ⟨_, _, _, (ute, uca, udr, ulo, ula, ulp, uset, ucount, ufree, udirty, uholds, ukl, ukc, uql, uqc, urt, urc, url, urs, ure, urb, utold), (te, ca, dr, lo, la, lp, set', count, free, dirty, holds', nI K, kc', ql, qc', rt, rc, rl, rs, re, rb, told'), _, _, rfl, rfl, ?_, ?_⟩
        · refine ⟨?_, fun z => ?_⟩
          · rw [pu_ne (by omega)]
            exact h0.1
          · refine (h0.2 z).row (fun j hj => ?_)
            try dsimp only
            rw [pk_cpy_out (by omega)]
        · refine ⟨⟨fun z => ?_, fun z => absurd z px_10⟩, fun _ => ?_⟩
          · rw [pu_eq] at z
            exact absurd z s_bool1
          · refine RS.row ⟨K, W, C, B, e2⟩ (fun j hj => ?_)
            try dsimp only
            rw [pk_cpy_in (by omega) (by omega)]
            exact congrArg row (by omega)
    · left
      rw [if_neg (show ¬ p0 ≤ 1 by rw [fc_le]; omega), if_neg (show ¬ (0 ≤ p0.toInt ∧ p0.toInt ≤ 1) by omega)]
      exact ⟨rfl, rfl⟩
theorem P_restore {p0 : Int32} (h0 : RF Bd 0 f0 (ute, uca, udr, ulo, ula, ulp, uset, ucount, ufree, udirty, uholds, ukl, ukc, uql, uqc, urt, urc, url, urs, ure, urb, utold) isk kpt) (h1 : RF Bd 1 f1 (wte, wca, wdr, wlo, wla, wlp, wset, wcount, wfree, wdirty, wholds, wkl, wkc, wql, wqc, wrt, wrc, wrl, wrs, wre, wrb, wtold) isk kpt) : (mX7_restore set holds count free dirty kc kl qc ql told rt rc rl rs re rb te ca dr lo la lp f0 uset uholds ucount ufree udirty ukc ukl uqc uql utold urt urc url urs ure urb ute uca udr ulo ula ulp f1 wset wholds wcount wfree wdirty wkc wkl wqc wql wtold wrt wrc wrl wrs wre wrb wte wca wdr wlo wla wlp old hln p0 = Sum.inl (fxE 2) ∧ mX8_restore rf ss sp ig lf ac row kpt isk p0 = (0, 1, ac, row)) ∨ (mX7_restore set holds count free dirty kc kl qc ql told rt rc rl rs re rb te ca dr lo la lp f0 uset uholds ucount ufree udirty ukc ukl uqc uql utold urt urc url urs ure urb ute uca udr ulo ula ulp f1 wset wholds wcount wfree wdirty wkc wkl wqc wql wtold wrt wrc wrl wrs wre wrb wte wca wdr wlo wla wlp old hln p0 = Sum.inl (fxE 1) ∧ mX8_restore rf ss sp ig lf ac row kpt isk p0 = (0, 2, ac, row)) ∨
    ∃ (r : Int32) (x : fcSV) (row' : Nat → Int32), mX7_restore set holds count free dirty kc kl qc ql told rt rc rl rs re rb te ca dr lo la lp f0 uset uholds ucount ufree udirty ukc ukl uqc uql utold urt urc url urs ure urb ute uca udr ulo ula ulp f1 wset wholds wcount wfree wdirty wkc wkl wqc wql wtold wrt wrc wrl wrs wre wrb wte wca wdr wlo wla wlp old hln p0 = Sum.inr (r, x.1, x.2.1, x.2.2.1, x.2.2.2.1, x.2.2.2.2.1, x.2.2.2.2.2.1, x.2.2.2.2.2.2.1, x.2.2.2.2.2.2.2.1, x.2.2.2.2.2.2.2.2.1, x.2.2.2.2.2.2.2.2.2.1, x.2.2.2.2.2.2.2.2.2.2.1, x.2.2.2.2.2.2.2.2.2.2.2.1, x.2.2.2.2.2.2.2.2.2.2.2.2.1, x.2.2.2.2.2.2.2.2.2.2.2.2.2.1, x.2.2.2.2.2.2.2.2.2.2.2.2.2.2.1, x.2.2.2.2.2.2.2.2.2.2.2.2.2.2.2.1, x.2.2.2.2.2.2.2.2.2.2.2.2.2.2.2.2.1, x.2.2.2.2.2.2.2.2.2.2.2.2.2.2.2.2.2.1, x.2.2.2.2.2.2.2.2.2.2.2.2.2.2.2.2.2.2.1, x.2.2.2.2.2.2.2.2.2.2.2.2.2.2.2.2.2.2.2.1, x.2.2.2.2.2.2.2.2.2.2.2.2.2.2.2.2.2.2.2.2.1, x.2.2.2.2.2.2.2.2.2.2.2.2.2.2.2.2.2.2.2.2.2, 0, 0) ∧ mX8_restore rf ss sp ig lf ac row kpt isk p0 = (r, 0, 0, row') ∧ RS Bd x row' := by
  have l0 : (0 : Int32).toInt = 0 := by decide
  have l1 : (1 : Int32).toInt = 1 := by decide
  unfold mX7_restore mX8_restore
  rw [px_in (show (0 : Int64).toInt = 0 by decide) (show (1 : Int64).toInt = 1 by decide)]
  by_cases c1 : p0.toInt < 0
  · left
    rw [if_pos (show p0 < 0 by rw [fc_lt]; omega), if_neg (show ¬ (0 ≤ p0.toInt ∧ p0.toInt ≤ 1) by omega)]
    exact ⟨rfl, rfl⟩
  · rw [if_neg (show ¬ p0 < 0 by rw [fc_lt]; omega)]
    by_cases c2 : p0.toInt ≤ 1
    · rw [if_pos (show p0 ≤ 1 by rw [fc_le]; omega), if_pos (show 0 ≤ p0.toInt ∧ p0.toInt ≤ 1 by omega)]
      dsimp only
      rw [if_neg px_10]
      by_cases c3 : p0 = 0
      · subst c3
        rw [if_pos rfl, pl_lit0]
        by_cases c4 : f0 = 0
        · right; left
          rw [if_pos c4, if_pos (h0.1.mpr c4)]
          exact ⟨rfl, rfl⟩
        · right; right
          rw [if_neg c4, if_neg (fun z => c4 (h0.1.mp z)), s_cq0]
          obtain ⟨K2, W2, C2, B2, hU⟩ := h0.2 c4
          dsimp only at hU
          obtain ⟨set', holds', kc', qc', told', e1, e2⟩ := R_copyFrom (gset := set) (gholds := holds) (gcount := count) (gfree := free) (gdirty := dirty) (gkc := kc) (gkl := kl) (gqc := qc) (gql := ql) (gtold := told) (grt := rt) (grc := rc) (grl := rl) (grs := rs) (gre := re) (grb := rb) (gte := te) (gca := ca) (gdr := dr) (glo := lo) (gla := la) (glp := lp) hU
          rw [e1]
          unfold mX2_forget
          dsimp only
          have kk := RR_cnt e2
          have er : va_cpy kpt row 0 0 357 16 = ukl := by
            rw [pk_cpy_in (by omega) (by omega), kk.1, ← kk.2.1]
          rw [pl_lit16, er]
          refine ⟨_, (ute, uca, udr, ulo, ula, ulp, set', ucount, ufree, udirty, holds', ukl, kc', uql, qc', urt, urc, url, urs, ure, urb, told'), _, rfl, rfl, ?_⟩
          refine RS.row (v := (ute, uca, udr, ulo, ula, ulp, set', ucount, ufree, udirty, holds', ukl, kc', uql, qc', urt, urc, url, urs, ure, urb, told')) ⟨K2, W2, C2, B2, e2⟩ (fun j hj => ?_)
          try dsimp only
          rw [pk_cpy_in (by omega) (by omega)]
          exact congrArg kpt (by omega)
      · have c4 : p0 = 1 := by
          rw [fc_eq] at c3 ⊢
          omega
        subst c4
        rw [if_neg c3, pl_lit1]
        clear c3
        by_cases c4 : f1 = 0
        · right; left
          rw [if_pos c4, if_pos (h1.1.mpr c4)]
          exact ⟨rfl, rfl⟩
        · right; right
          rw [if_neg c4, if_neg (fun z => c4 (h1.1.mp z)), s_cq1]
          obtain ⟨K2, W2, C2, B2, hU⟩ := h1.2 c4
          dsimp only at hU
          obtain ⟨set', holds', kc', qc', told', e1, e2⟩ := R_copyFrom (gset := set) (gholds := holds) (gcount := count) (gfree := free) (gdirty := dirty) (gkc := kc) (gkl := kl) (gqc := qc) (gql := ql) (gtold := told) (grt := rt) (grc := rc) (grl := rl) (grs := rs) (gre := re) (grb := rb) (gte := te) (gca := ca) (gdr := dr) (glo := lo) (gla := la) (glp := lp) hU
          rw [e1]
          unfold mX2_forget
          dsimp only
          have kk := RR_cnt e2
          have er : va_cpy kpt row 357 0 357 16 = wkl := by
            rw [pk_cpy_in (by omega) (by omega), kk.1, ← kk.2.1]
          rw [pl_lit16, er]
          refine ⟨_, (wte, wca, wdr, wlo, wla, wlp, set', wcount, wfree, wdirty, holds', wkl, kc', wql, qc', wrt, wrc, wrl, wrs, wre, wrb, told'), _, rfl, rfl, ?_⟩
          refine RS.row (v := (wte, wca, wdr, wlo, wla, wlp, set', wcount, wfree, wdirty, holds', wkl, kc', wql, qc', wrt, wrc, wrl, wrs, wre, wrb, told')) ⟨K2, W2, C2, B2, e2⟩ (fun j hj => ?_)
          try dsimp only
          rw [pk_cpy_in (by omega) (by omega)]
          exact congrArg kpt (by omega)
    · left
      rw [if_neg (show ¬ p0 ≤ 1 by rw [fc_le]; omega), if_neg (show ¬ (0 ≤ p0.toInt ∧ p0.toInt ≤ 1) by omega)]
      exact ⟨rfl, rfl⟩
end
