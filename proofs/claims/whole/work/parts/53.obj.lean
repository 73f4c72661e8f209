/-! The reference: its object, small things -/
theorem fx_in01 {a b c : Int64} {r : Int32} (h : mX8_in a b c = r) : r = 0 ∨ r = 1 := by
  subst h
  unfold mX8_in
  split
  · exact Or.inl rfl
  · split
    · exact Or.inl rfl
    · exact Or.inr rfl
--# X8_thrown
noncomputable def mX8_thrown (rf : Int32) (ss : Int32) (sp : Int32) (ig : Int32) (lf : Int32) (ac : Int32) : Int32 :=
  rf
set_option maxRecDepth 20000 in
theorem iX8_thrown_X8 : ∀ w ∈ wsX80, w ∈ wsX8_thrown := by decide +kernel
abbrev rmX8_thrown : Room := { frames := 0, cells := 0, slots := 0, locals := 0 }
set_option maxHeartbeats 4000000 in
set_option maxRecDepth 100000 in
theorem c_X8_thrown (l : Launch) (D : va_G) (tc : Nat → ClassId) (mo : Nat) (sc : Nat) (rd : Nat) (nw : Nat) (tr : Nat) (di : Nat) (kp : Nat) (ik : Nat) (rf : Int32) (ss : Int32) (sp : Int32) (ig : Int32) (lf : Int32) (ac : Int32) (sz : Nat) : Met l yX8_thrown wsX8_thrown rmX8_thrown (va_Pc [.ref mo] (fcB D tc [(mo, .inr (8, [.int rf, .ref sc, .int ss, .int sp, .int ig, .int lf, .ref rd, .ref nw, .ref tr, .ref di, .int ac, .ref kp, .ref ik]))] sz)) (va_Qi (fun (r : Int32) (_ : Unit) => mX8_thrown rf ss sp ig lf ac = r) (fun u t => fcO D (va_A [(mo, .inr (8, [.int rf, .ref sc, .int ss, .int sp, .int ig, .int lf, .ref rd, .ref nw, .ref tr, .ref di, .int ac, .ref kp, .ref ik]))] sz) ((fun (_ : Unit) => [(mo, .inr (8, [.int rf, .ref sc, .int ss, .int sp, .int ig, .int lf, .ref rd, .ref nw, .ref tr, .ref di, .int ac, .ref kp, .ref ik]))]) u) t) (va_A [(mo, .inr (8, [.int rf, .ref sc, .int ss, .int sp, .int ig, .int lf, .ref rd, .ref nw, .ref tr, .ref di, .int ac, .ref kp, .ref ik]))] sz)) 0 0 (va_A [(mo, .inr (8, [.int rf, .ref sc, .int ss, .int sp, .int ig, .int lf, .ref rd, .ref nw, .ref tr, .ref di, .int ac, .ref kp, .ref ik]))] sz) := by
  refine fc_ofWi (own := RX8) (cc := cX8_thrown) (maxL := 1) (W1 := (fun (_ : Unit) => [(mo, .inr (8, [.int rf, .ref sc, .int ss, .int sp, .int ig, .int lf, .ref rd, .ref nw, .ref tr, .ref di, .int ac, .ref kp, .ref ik]))])) rfl (by decide) rfl (Nat.le_of_ble_eq_true rfl) ?_
  intro p e s m args below meth c A Q hx hb hml hown hts hK hE hP hD hS hA hin hret ls hl
  have hl : lv_has ls 1 [(0, .ref mo)] := hl
  refine lv_aload_n hx hb dX8_thrown_0 rfl (lv_at hl 0 rfl) ?_
  refine va_get (D := D) (ci := 8) (v := .int rf) (C := RX8) (T := TX8) (N := 13) hx hb hts iX8_thrown_X8 hown hK hP 0 rfl rfl 0 (by decide) (hts (.fieldLink RX8 36 "FrameCardModel" "refusal" "I") (by decide +kernel)) (fun _ h9 => h9) rfl dX8_thrown_1 ?_
  exact hret _ _ (rf) () _ _ (by rw [mX8_thrown]; (first | done | rfl)) (hP.sub [0] rfl) (hD.sub [0] (by decide) rfl) hS dX8_thrown_4
--# X8_refused
noncomputable def mX8_refused (rf : Int32) (ss : Int32) (sp : Int32) (ig : Int32) (lf : Int32) (ac : Int32) (p0 : Int32) : Int32 × Int32 :=
  if p0 ≤ 0 then
    (0, p0)
  else
    (1, p0)
set_option maxRecDepth 20000 in
theorem iX8_refused_X8 : ∀ w ∈ wsX80, w ∈ wsX8_refused := by decide +kernel
abbrev rmX8_refused : Room := { frames := 0, cells := 0, slots := 0, locals := 0 }
set_option maxHeartbeats 4000000 in
set_option maxRecDepth 100000 in
theorem c_X8_refused (l : Launch) (D : va_G) (tc : Nat → ClassId) (mo : Nat) (sc : Nat) (rd : Nat) (nw : Nat) (tr : Nat) (di : Nat) (kp : Nat) (ik : Nat) (rf : Int32) (ss : Int32) (sp : Int32) (ig : Int32) (lf : Int32) (ac : Int32) (p0 : Int32) (sz : Nat) : Met l yX8_refused wsX8_refused rmX8_refused (va_Pc [.ref mo, .int p0] (fcB D tc [(mo, .inr (8, [.int rf, .ref sc, .int ss, .int sp, .int ig, .int lf, .ref rd, .ref nw, .ref tr, .ref di, .int ac, .ref kp, .ref ik]))] sz)) (va_Qi (fun (r : Int32) (u : Int32) => mX8_refused rf ss sp ig lf ac p0 = (r, u)) (fun u t => fcO D (va_A [(mo, .inr (8, [.int rf, .ref sc, .int ss, .int sp, .int ig, .int lf, .ref rd, .ref nw, .ref tr, .ref di, .int ac, .ref kp, .ref ik]))] sz) ((fun (u : Int32) => [(mo, .inr (8, [.int u, .ref sc, .int ss, .int sp, .int ig, .int lf, .ref rd, .ref nw, .ref tr, .ref di, .int ac, .ref kp, .ref ik]))]) u) t) (va_A [(mo, .inr (8, [.int rf, .ref sc, .int ss, .int sp, .int ig, .int lf, .ref rd, .ref nw, .ref tr, .ref di, .int ac, .ref kp, .ref ik]))] sz)) 0 0 (va_A [(mo, .inr (8, [.int rf, .ref sc, .int ss, .int sp, .int ig, .int lf, .ref rd, .ref nw, .ref tr, .ref di, .int ac, .ref kp, .ref ik]))] sz) := by
  refine fc_ofWz (own := RX8) (cc := cX8_refused) (maxL := 2) (W1 := (fun (u : Int32) => [(mo, .inr (8, [.int u, .ref sc, .int ss, .int sp, .int ig, .int lf, .ref rd, .ref nw, .ref tr, .ref di, .int ac, .ref kp, .ref ik]))])) rfl (by decide) rfl (Nat.le_of_ble_eq_true rfl) ?_
  intro p e s m args below meth c A Q hx hb hml hown hts hK hE hP hD hS hA hin hret ls hl
  have hl : lv_has ls 2 [(0, .ref mo), (1, .int p0)] := hl
  refine lv_aload_n hx hb dX8_refused_0 rfl (lv_at hl 0 rfl) ?_
  refine lv_iload_n hx hb dX8_refused_1 rfl (lv_at hl 1 rfl) ?_
  refine va_put (D := D) (ci := 8) (v := .int p0) (ty := .int) (C := RX8) (T := TX8) (N := 13) hx hb hts iX8_refused_X8 tyX8 tyX8_ok nmX8 hown hK hP hD hS 0 rfl rfl 0 (by decide) (hts (.fieldLink RX8 36 "FrameCardModel" "refusal" "I") (by decide +kernel)) (fun _ h9 => h9) rfl (by decide +kernel) rfl rfl (Nat.le_of_ble_eq_true rfl) dX8_refused_2 (fun H locs hP hD hS => ?_)
  have hP : va_P D vwCl [(mo, .inr (8, [.int p0, .ref sc, .int ss, .int sp, .int ig, .int lf, .ref rd, .ref nw, .ref tr, .ref di, .int ac, .ref kp, .ref ik]))] H := hP
  have hD : va_D A [(mo, .inr (8, [.int p0, .ref sc, .int ss, .int sp, .int ig, .int lf, .ref rd, .ref nw, .ref tr, .ref di, .int ac, .ref kp, .ref ik]))] := hD
  refine lv_iload_n hx hb dX8_refused_5 rfl (lv_at hl 1 rfl) ?_
  refine lv_if_le (tgt := 13) hx hb dX8_refused_6 (by decide) (fun c_1 => ?_) (fun c_1 => ?_)
  · refine lv_iconst (v := 0) hx hb dX8_refused_13 (by decide) ?_
    exact hret _ _ (0) p0 _ _ (Or.inl rfl) (by rw [mX8_refused]; (try dsimp only); rw [if_pos c_1]; (first | done | rfl)) (hP.sub [0] rfl) (hD.sub [0] (by decide) rfl) hS dX8_refused_14
  · refine lv_iconst (v := 1) hx hb dX8_refused_9 (by decide) ?_
    refine lv_goto (tgt := 14) hx hb dX8_refused_10 (by decide) ?_
    exact hret _ _ (1) p0 _ _ (Or.inr rfl) (by rw [mX8_refused]; (try dsimp only); rw [if_neg c_1]; (first | done | rfl)) (hP.sub [0] rfl) (hD.sub [0] (by decide) rfl) hS dX8_refused_14
--# X8_clearText
noncomputable def mX8_clearText (rf : Int32) (ss : Int32) (sp : Int32) (ig : Int32) (lf : Int32) (ac : Int32) : Int32 × Int32 × Int32 :=
  (ss, 0, 0)
set_option maxRecDepth 20000 in
theorem iX8_clearText_X8 : ∀ w ∈ wsX80, w ∈ wsX8_clearText := by decide +kernel
abbrev rmX8_clearText : Room := { frames := 0, cells := 0, slots := 0, locals := 0 }
set_option maxHeartbeats 4000000 in
set_option maxRecDepth 100000 in
theorem c_X8_clearText (l : Launch) (D : va_G) (tc : Nat → ClassId) (mo : Nat) (sc : Nat) (rd : Nat) (nw : Nat) (tr : Nat) (di : Nat) (kp : Nat) (ik : Nat) (rf : Int32) (ss : Int32) (sp : Int32) (ig : Int32) (lf : Int32) (ac : Int32) (sz : Nat) : Met l yX8_clearText wsX8_clearText rmX8_clearText (va_Pc [.ref mo] (fcB D tc [(mo, .inr (8, [.int rf, .ref sc, .int ss, .int sp, .int ig, .int lf, .ref rd, .ref nw, .ref tr, .ref di, .int ac, .ref kp, .ref ik]))] sz)) (va_Qi (fun (r : Int32) (u : Int32 × Int32) => mX8_clearText rf ss sp ig lf ac = (r, u)) (fun u t => fcO D (va_A [(mo, .inr (8, [.int rf, .ref sc, .int ss, .int sp, .int ig, .int lf, .ref rd, .ref nw, .ref tr, .ref di, .int ac, .ref kp, .ref ik]))] sz) ((fun (u : Int32 × Int32) => [(mo, .inr (8, [.int (u.1), .ref sc, .int (u.2), .int sp, .int ig, .int lf, .ref rd, .ref nw, .ref tr, .ref di, .int ac, .ref kp, .ref ik]))]) u) t) (va_A [(mo, .inr (8, [.int rf, .ref sc, .int ss, .int sp, .int ig, .int lf, .ref rd, .ref nw, .ref tr, .ref di, .int ac, .ref kp, .ref ik]))] sz)) 0 0 (va_A [(mo, .inr (8, [.int rf, .ref sc, .int ss, .int sp, .int ig, .int lf, .ref rd, .ref nw, .ref tr, .ref di, .int ac, .ref kp, .ref ik]))] sz) := by
  refine fc_ofWi (own := RX8) (cc := cX8_clearText) (maxL := 2) (W1 := (fun (u : Int32 × Int32) => [(mo, .inr (8, [.int (u.1), .ref sc, .int (u.2), .int sp, .int ig, .int lf, .ref rd, .ref nw, .ref tr, .ref di, .int ac, .ref kp, .ref ik]))])) rfl (by decide) rfl (Nat.le_of_ble_eq_true rfl) ?_
  intro p e s m args below meth c A Q hx hb hml hown hts hK hE hP hD hS hA hin hret ls hl
  have hl : lv_has ls 2 [(0, .ref mo)] := hl
  refine lv_aload_n hx hb dX8_clearText_0 rfl (lv_at hl 0 rfl) ?_
  refine lv_iconst (v := 0) hx hb dX8_clearText_1 (by decide) ?_
  refine va_put (D := D) (ci := 8) (v := .int 0) (ty := .int) (C := RX8) (T := TX8) (N := 13) hx hb hts iX8_clearText_X8 tyX8 tyX8_ok nmX8 hown hK hP hD hS 0 rfl rfl 0 (by decide) (hts (.fieldLink RX8 36 "FrameCardModel" "refusal" "I") (by decide +kernel)) (fun _ h9 => h9) rfl (by decide +kernel) rfl rfl (Nat.le_of_ble_eq_true rfl) dX8_clearText_2 (fun H locs hP hD hS => ?_)
  have hP : va_P D vwCl [(mo, .inr (8, [.int 0, .ref sc, .int ss, .int sp, .int ig, .int lf, .ref rd, .ref nw, .ref tr, .ref di, .int ac, .ref kp, .ref ik]))] H := hP
  have hD : va_D A [(mo, .inr (8, [.int 0, .ref sc, .int ss, .int sp, .int ig, .int lf, .ref rd, .ref nw, .ref tr, .ref di, .int ac, .ref kp, .ref ik]))] := hD
  refine lv_aload_n hx hb dX8_clearText_5 rfl (lv_at hl 0 rfl) ?_
  refine va_get (D := D) (ci := 8) (v := .int ss) (C := RX8) (T := TX8) (N := 13) hx hb hts iX8_clearText_X8 hown hK hP 0 rfl rfl 2 (by decide) (hts (.fieldLink RX8 100 "FrameCardModel" "scriptSize" "I") (by decide +kernel)) (fun _ h9 => h9) rfl dX8_clearText_6 ?_
  refine lv_istore_n (lv' := [(1, .int ss), (0, .ref mo)]) hx hb dX8_clearText_9 rfl hl (by decide) rfl (fun ls hl => ?_)
  refine lv_aload_n hx hb dX8_clearText_10 rfl (lv_at hl 1 rfl) ?_
  refine lv_iconst (v := 0) hx hb dX8_clearText_11 (by decide) ?_
  refine va_put (D := D) (ci := 8) (v := .int 0) (ty := .int) (C := RX8) (T := TX8) (N := 13) hx hb hts iX8_clearText_X8 tyX8 tyX8_ok nmX8 hown hK hP hD hS 0 rfl rfl 2 (by decide) (hts (.fieldLink RX8 100 "FrameCardModel" "scriptSize" "I") (by decide +kernel)) (fun _ h9 => h9) rfl (by decide +kernel) rfl rfl (Nat.le_of_ble_eq_true rfl) dX8_clearText_12 (fun H locs hP hD hS => ?_)
  have hP : va_P D vwCl [(mo, .inr (8, [.int 0, .ref sc, .int 0, .int sp, .int ig, .int lf, .ref rd, .ref nw, .ref tr, .ref di, .int ac, .ref kp, .ref ik]))] H := hP
  have hD : va_D A [(mo, .inr (8, [.int 0, .ref sc, .int 0, .int sp, .int ig, .int lf, .ref rd, .ref nw, .ref tr, .ref di, .int ac, .ref kp, .ref ik]))] := hD
  refine lv_iload_n hx hb dX8_clearText_15 rfl (lv_at hl 0 rfl) ?_
  exact hret _ _ (ss) (0, 0) _ _ (by rw [mX8_clearText]; (first | done | rfl)) (hP.sub [0] rfl) (hD.sub [0] (by decide) rfl) hS dX8_clearText_16
--# X8_isNext
noncomputable def mX8_isNext (rf : Int32) (ss : Int32) (sp : Int32) (ig : Int32) (lf : Int32) (ac : Int32) (scr : Nat → Int32) (p0 : Int32) : Int32 :=
  if ss ≤ sp then
    0
  else
    if (scr sp.toNatClampNeg) = p0 then
      1
    else
      0
set_option maxRecDepth 20000 in
theorem iX8_isNext_X8 : ∀ w ∈ wsX80, w ∈ wsX8_isNext := by decide +kernel
abbrev rmX8_isNext : Room := { frames := 0, cells := 0, slots := 0, locals := 0 }
set_option maxHeartbeats 4000000 in
set_option maxRecDepth 100000 in
theorem c_X8_isNext (l : Launch) (D : va_G) (tc : Nat → ClassId) (mo : Nat) (sc : Nat) (rd : Nat) (nw : Nat) (tr : Nat) (di : Nat) (kp : Nat) (ik : Nat) (rf : Int32) (ss : Int32) (sp : Int32) (ig : Int32) (lf : Int32) (ac : Int32) (scr : Nat → Int32) (p0 : Int32) (sz : Nat) (hsp : 0 ≤ sp.toInt) (hss : ss.toInt ≤ 120) : Met l yX8_isNext wsX8_isNext rmX8_isNext (va_Pc [.ref mo, .int p0] (fcB D tc [(mo, .inr (8, [.int rf, .ref sc, .int ss, .int sp, .int ig, .int lf, .ref rd, .ref nw, .ref tr, .ref di, .int ac, .ref kp, .ref ik])), (sc, .inl (tc 0, 120, .inl scr))] sz)) (va_Qi (fun (r : Int32) (_ : Unit) => mX8_isNext rf ss sp ig lf ac scr p0 = r) (fun u t => fcO D (va_A [(mo, .inr (8, [.int rf, .ref sc, .int ss, .int sp, .int ig, .int lf, .ref rd, .ref nw, .ref tr, .ref di, .int ac, .ref kp, .ref ik])), (sc, .inl (tc 0, 120, .inl scr))] sz) ((fun (_ : Unit) => [(mo, .inr (8, [.int rf, .ref sc, .int ss, .int sp, .int ig, .int lf, .ref rd, .ref nw, .ref tr, .ref di, .int ac, .ref kp, .ref ik])), (sc, .inl (tc 0, 120, .inl scr))]) u) t) (va_A [(mo, .inr (8, [.int rf, .ref sc, .int ss, .int sp, .int ig, .int lf, .ref rd, .ref nw, .ref tr, .ref di, .int ac, .ref kp, .ref ik])), (sc, .inl (tc 0, 120, .inl scr))] sz)) 0 0 (va_A [(mo, .inr (8, [.int rf, .ref sc, .int ss, .int sp, .int ig, .int lf, .ref rd, .ref nw, .ref tr, .ref di, .int ac, .ref kp, .ref ik])), (sc, .inl (tc 0, 120, .inl scr))] sz) := by
  refine fc_ofWz (own := RX8) (cc := cX8_isNext) (maxL := 2) (W1 := (fun (_ : Unit) => [(mo, .inr (8, [.int rf, .ref sc, .int ss, .int sp, .int ig, .int lf, .ref rd, .ref nw, .ref tr, .ref di, .int ac, .ref kp, .ref ik])), (sc, .inl (tc 0, 120, .inl scr))])) rfl (by decide) rfl (Nat.le_of_ble_eq_true rfl) ?_
  intro p e s m args below meth c A Q hx hb hml hown hts hK hE hP hD hS hA hin hret ls hl
  have hl : lv_has ls 2 [(0, .ref mo), (1, .int p0)] := hl
  refine lv_aload_n hx hb dX8_isNext_0 rfl (lv_at hl 0 rfl) ?_
  refine va_get (D := D) (ci := 8) (v := .int sp) (C := RX8) (T := TX8) (N := 13) hx hb hts iX8_isNext_X8 hown hK hP 0 rfl rfl 3 (by decide) (hts (.fieldLink RX8 107 "FrameCardModel" "spot" "I") (by decide +kernel)) (fun _ h9 => h9) rfl dX8_isNext_1 ?_
  refine lv_aload_n hx hb dX8_isNext_4 rfl (lv_at hl 0 rfl) ?_
  refine va_get (D := D) (ci := 8) (v := .int ss) (C := RX8) (T := TX8) (N := 13) hx hb hts iX8_isNext_X8 hown hK hP 0 rfl rfl 2 (by decide) (hts (.fieldLink RX8 100 "FrameCardModel" "scriptSize" "I") (by decide +kernel)) (fun _ h9 => h9) rfl dX8_isNext_5 ?_
  refine lv_icmp_ge (tgt := 28) hx hb dX8_isNext_8 (by decide) (fun c_1 => ?_) (fun c_1 => ?_)
  · refine lv_iconst (v := 0) hx hb dX8_isNext_28 (by decide) ?_
    exact hret _ _ (0) () _ _ (Or.inl rfl) (by rw [mX8_isNext]; (try dsimp only); rw [if_pos c_1]; (first | done | rfl)) (hP.sub [0, 1] rfl) (hD.sub [0, 1] (by decide) rfl) hS dX8_isNext_29
  · refine lv_aload_n hx hb dX8_isNext_11 rfl (lv_at hl 0 rfl) ?_
    refine va_get (D := D) (ci := 8) (v := .ref sc) (C := RX8) (T := TX8) (N := 13) hx hb hts iX8_isNext_X8 hown hK hP 0 rfl rfl 1 (by decide) (hts (.fieldLink RX8 7 "FrameCardModel" "script" "[I") (by decide +kernel)) (fun _ h9 => h9) rfl dX8_isNext_12 ?_
    refine lv_aload_n hx hb dX8_isNext_15 rfl (lv_at hl 0 rfl) ?_
    refine va_get (D := D) (ci := 8) (v := .int sp) (C := RX8) (T := TX8) (N := 13) hx hb hts iX8_isNext_X8 hown hK hP 0 rfl rfl 3 (by decide) (hts (.fieldLink RX8 107 "FrameCardModel" "spot" "I") (by decide +kernel)) (fun _ h9 => h9) rfl dX8_isNext_16 ?_
    refine va_iald (D := D) hx hb hK hP 1 0 rfl rfl (by have l_0 : (0 : Int32).toInt = 0 := (by decide); have l_1 : (1 : Int32).toInt = 1 := (by decide); have l_2 : (2 : Int32).toInt = 2 := (by decide); have l_3 : (3 : Int32).toInt = 3 := (by decide); have l_4 : (4 : Int32).toInt = 4 := (by decide); have qc_1 := c_1; (try simp only [fc_le, fc_lt, fc_eq] at qc_1); rw [vp_in_iff]; omega) dX8_isNext_19 ?_
    refine lv_iload_n hx hb dX8_isNext_20 rfl (lv_at hl 1 rfl) ?_
    refine lv_icmp_ne (tgt := 28) hx hb dX8_isNext_21 (by decide) (fun c_2 => ?_) (fun c_2 => ?_)
    · refine lv_iconst (v := 0) hx hb dX8_isNext_28 (by decide) ?_
      exact hret _ _ (0) () _ _ (Or.inl rfl) (by rw [mX8_isNext]; (try dsimp only); rw [if_neg c_1]; rw [if_neg c_2]; (first | done | rfl)) (hP.sub [0, 1] rfl) (hD.sub [0, 1] (by decide) rfl) hS dX8_isNext_29
    · refine lv_iconst (v := 1) hx hb dX8_isNext_24 (by decide) ?_
      refine lv_goto (tgt := 29) hx hb dX8_isNext_25 (by decide) ?_
      exact hret _ _ (1) () _ _ (Or.inr rfl) (by rw [mX8_isNext]; (try dsimp only); rw [if_neg c_1]; rw [if_pos c_2]; (first | done | rfl)) (hP.sub [0, 1] rfl) (hD.sub [0, 1] (by decide) rfl) hS dX8_isNext_29
--# X8_isPicture
theorem hd_X8_in : yX8_in.cls = RX8 ∧ yX8_in.cls ≠ "java/lang/invoke/MethodHandle" ∧ yX8_in.cls ≠ "java/lang/invoke/VarHandle" ∧ (parseMethodDescriptor yX8_in.desc).map (fun d => d.parameters.length) = some 3 := by decide +kernel
theorem hd_X8_inn : yX8_in.cls ≠ "java/lang/invoke/MethodHandle" ∧ yX8_in.cls ≠ "java/lang/invoke/VarHandle" ∧ (parseMethodDescriptor yX8_in.desc).map (fun d => d.parameters.length) = some 3 := by decide +kernel
noncomputable def mX8_isPicture (p0 : Int32) : Int32 :=
  let r_1 := mX8_in p0.toInt64 0 999999
  r_1
abbrev rmX8_isPicture : Room := { frames := 1, cells := 0, slots := 0, locals := 25 }
set_option maxHeartbeats 4000000 in
set_option maxRecDepth 100000 in
theorem c_X8_isPicture (l : Launch) (D : va_G) (tc : Nat → ClassId) (p0 : Int32) (sz : Nat) : Met l yX8_isPicture wsX8_isPicture rmX8_isPicture (va_Pc [.int p0] (fcB D tc [] sz)) (va_Qi (fun (r : Int32) (_ : Unit) => mX8_isPicture p0 = r) (fun u t => fcO D (va_A [] sz) ((fun (_ : Unit) => []) u) t) (va_A [] sz)) 0 0 (va_A [] sz) := by
  refine fc_ofWz (own := RX8) (cc := cX8_isPicture) (maxL := 1) (W1 := (fun (_ : Unit) => [])) rfl (by decide) rfl (Nat.le_of_ble_eq_true rfl) ?_
  intro p e s m args below meth c A Q hx hb hml hown hts hK hE hP hD hS hA hin hret ls hl
  have hl : lv_has ls 1 [(0, .int p0)] := hl
  refine lv_iload_n hx hb dX8_isPicture_0 rfl (lv_at hl 0 rfl) ?_
  refine lv_i2l hx hb dX8_isPicture_1 rfl ?_
  refine lv_lconst (v := 0) hx hb dX8_isPicture_2 (by decide) ?_
  refine lv_ldc2 (v := 999999) hx hb hown (hts (.constantLong RX8 168 999999) (by decide +kernel)) dX8_isPicture_3 ?_
  refine fc_goi (isC := []) (isR := []) (wc := []) (wr := []) hP hD hS hA rfl rfl (by decide) (by decide) (fc_runS (isC := []) (As := [.long p0.toInt64, .long 0, .long 999999]) (rest := []) hx hb hml hown hts hK hE hP hD hS hA rfl (by decide) (c_X8_in l D tc p0.toInt64 0 999999 _ ) (cwS 3 hts gX8_isPicture_X8_in rfl rfl rfl hd_X8_in ⟨Nat.le_of_ble_eq_true rfl, Nat.le_of_ble_eq_true rfl⟩) rfl hl.1 rfl (Nat.le_of_ble_eq_true rfl) dX8_isPicture_6 ⟨Nat.le_of_ble_eq_true rfl, Nat.le_of_ble_eq_true rfl⟩) (fun r_1 u_1 H locs hw_1 hP hD hS => ?_)
  try dsimp only at hw_1
  have hP : va_P D vwCl [] H := hP
  have hD : va_D A [] := hD
  exact hret _ _ (r_1) () _ _ (fx_in01 hw_1) (by rw [mX8_isPicture]; (try dsimp only); rw [hw_1]; (try dsimp only); (first | done | rfl)) (hP.sub [] rfl) (hD.sub [] (by decide) rfl) hS dX8_isPicture_9
--# X8_isTicks
noncomputable def mX8_isTicks (p0 : Int32) : Int32 :=
  let r_1 := mX8_in p0.toInt64 1 50
  r_1
abbrev rmX8_isTicks : Room := { frames := 1, cells := 0, slots := 0, locals := 25 }
set_option maxHeartbeats 4000000 in
set_option maxRecDepth 100000 in
theorem c_X8_isTicks (l : Launch) (D : va_G) (tc : Nat → ClassId) (p0 : Int32) (sz : Nat) : Met l yX8_isTicks wsX8_isTicks rmX8_isTicks (va_Pc [.int p0] (fcB D tc [] sz)) (va_Qi (fun (r : Int32) (_ : Unit) => mX8_isTicks p0 = r) (fun u t => fcO D (va_A [] sz) ((fun (_ : Unit) => []) u) t) (va_A [] sz)) 0 0 (va_A [] sz) := by
  refine fc_ofWz (own := RX8) (cc := cX8_isTicks) (maxL := 1) (W1 := (fun (_ : Unit) => [])) rfl (by decide) rfl (Nat.le_of_ble_eq_true rfl) ?_
  intro p e s m args below meth c A Q hx hb hml hown hts hK hE hP hD hS hA hin hret ls hl
  have hl : lv_has ls 1 [(0, .int p0)] := hl
  refine lv_iload_n hx hb dX8_isTicks_0 rfl (lv_at hl 0 rfl) ?_
  refine lv_i2l hx hb dX8_isTicks_1 rfl ?_
  refine lv_lconst (v := 1) hx hb dX8_isTicks_2 (by decide) ?_
  refine lv_ldc2 (v := 50) hx hb hown (hts (.constantLong RX8 170 50) (by decide +kernel)) dX8_isTicks_3 ?_
  refine fc_goi (isC := []) (isR := []) (wc := []) (wr := []) hP hD hS hA rfl rfl (by decide) (by decide) (fc_runS (isC := []) (As := [.long p0.toInt64, .long 1, .long 50]) (rest := []) hx hb hml hown hts hK hE hP hD hS hA rfl (by decide) (c_X8_in l D tc p0.toInt64 1 50 _ ) (cwS 3 hts gX8_isTicks_X8_in rfl rfl rfl hd_X8_in ⟨Nat.le_of_ble_eq_true rfl, Nat.le_of_ble_eq_true rfl⟩) rfl hl.1 rfl (Nat.le_of_ble_eq_true rfl) dX8_isTicks_6 ⟨Nat.le_of_ble_eq_true rfl, Nat.le_of_ble_eq_true rfl⟩) (fun r_1 u_1 H locs hw_1 hP hD hS => ?_)
  try dsimp only at hw_1
  have hP : va_P D vwCl [] H := hP
  have hD : va_D A [] := hD
  exact hret _ _ (r_1) () _ _ (fx_in01 hw_1) (by rw [mX8_isTicks]; (try dsimp only); rw [hw_1]; (try dsimp only); (first | done | rfl)) (hP.sub [] rfl) (hD.sub [] (by decide) rfl) hS dX8_isTicks_9
--# X8_isSetting
noncomputable def mX8_isSetting (p0 : Int32) (p1 : Int32) : Int32 :=
  if p0 = 0 then
    let r_9 := mX8_in p1.toInt64 0 8
    if r_9 = 0 then
      0
    else
      1
  else
    if p0 = 1 then
      let r_6 := mX8_in p1.toInt64 0 9
      if r_6 = 0 then
        0
      else
        1
    else
      if p0 = 2 then
        let r_4 := mX8_in p1.toInt64 1 20
        if r_4 = 0 then
          0
        else
          1
      else
        0
abbrev rmX8_isSetting : Room := { frames := 1, cells := 0, slots := 0, locals := 25 }
set_option maxHeartbeats 4000000 in
set_option maxRecDepth 100000 in
theorem c_X8_isSetting (l : Launch) (D : va_G) (tc : Nat → ClassId) (p0 : Int32) (p1 : Int32) (sz : Nat) : Met l yX8_isSetting wsX8_isSetting rmX8_isSetting (va_Pc [.int p0, .int p1] (fcB D tc [] sz)) (va_Qi (fun (r : Int32) (_ : Unit) => mX8_isSetting p0 p1 = r) (fun u t => fcO D (va_A [] sz) ((fun (_ : Unit) => []) u) t) (va_A [] sz)) 0 0 (va_A [] sz) := by
  refine fc_ofWz (own := RX8) (cc := cX8_isSetting) (maxL := 2) (W1 := (fun (_ : Unit) => [])) rfl (by decide) rfl (Nat.le_of_ble_eq_true rfl) ?_
  intro p e s m args below meth c A Q hx hb hml hown hts hK hE hP hD hS hA hin hret ls hl
  have hl : lv_has ls 2 [(0, .int p0), (1, .int p1)] := hl
  refine lv_iload_n hx hb dX8_isSetting_0 rfl (lv_at hl 0 rfl) ?_
  refine lv_if_ne (tgt := 16) hx hb dX8_isSetting_1 (by decide) (fun c_1 => ?_) (fun c_1 => ?_)
  · refine lv_iload_n hx hb dX8_isSetting_16 rfl (lv_at hl 0 rfl) ?_
    refine lv_iconst (v := 1) hx hb dX8_isSetting_17 (by decide) ?_
    refine lv_icmp_ne (tgt := 33) hx hb dX8_isSetting_18 (by decide) (fun c_2 => ?_) (fun c_2 => ?_)
    · refine lv_iload_n hx hb dX8_isSetting_33 rfl (lv_at hl 0 rfl) ?_
      refine lv_iconst (v := 2) hx hb dX8_isSetting_34 (by decide) ?_
      refine lv_icmp_ne (tgt := 54) hx hb dX8_isSetting_35 (by decide) (fun c_3 => ?_) (fun c_3 => ?_)
      · refine lv_iconst (v := 0) hx hb dX8_isSetting_54 (by decide) ?_
        exact hret _ _ (0) () _ _ (Or.inl rfl) (by rw [mX8_isSetting]; (try dsimp only); rw [if_neg c_1]; rw [if_neg c_2]; rw [if_neg c_3]; (first | done | rfl)) (hP.sub [] rfl) (hD.sub [] (by decide) rfl) hS dX8_isSetting_55
      · refine lv_iload_n hx hb dX8_isSetting_38 rfl (lv_at hl 1 rfl) ?_
        refine lv_i2l hx hb dX8_isSetting_39 rfl ?_
        refine lv_lconst (v := 1) hx hb dX8_isSetting_40 (by decide) ?_
        refine lv_ldc2 (v := 20) hx hb hown (hts (.constantLong RX8 185 20) (by decide +kernel)) dX8_isSetting_41 ?_
        refine fc_goi (isC := []) (isR := []) (wc := []) (wr := []) hP hD hS hA rfl rfl (by decide) (by decide) (fc_runS (isC := []) (As := [.long p1.toInt64, .long 1, .long 20]) (rest := []) hx hb hml hown hts hK hE hP hD hS hA rfl (by decide) (c_X8_in l D tc p1.toInt64 1 20 _ ) (cwS 3 hts gX8_isSetting_X8_in rfl rfl rfl hd_X8_in ⟨Nat.le_of_ble_eq_true rfl, Nat.le_of_ble_eq_true rfl⟩) rfl hl.1 rfl (Nat.le_of_ble_eq_true rfl) dX8_isSetting_44 ⟨Nat.le_of_ble_eq_true rfl, Nat.le_of_ble_eq_true rfl⟩) (fun r_4 u_4 H locs hw_4 hP hD hS => ?_)
        try dsimp only at hw_4
        have hP : va_P D vwCl [] H := hP
        have hD : va_D A [] := hD
        refine lv_if_eq (tgt := 54) hx hb dX8_isSetting_47 (by decide) (fun c_5 => ?_) (fun c_5 => ?_)
        · refine lv_iconst (v := 0) hx hb dX8_isSetting_54 (by decide) ?_
          exact hret _ _ (0) () _ _ (Or.inl rfl) (by rw [mX8_isSetting]; (try dsimp only); rw [if_neg c_1]; rw [if_neg c_2]; rw [if_pos c_3]; rw [hw_4]; (try dsimp only); rw [if_pos c_5]; (first | done | rfl)) (hP.sub [] rfl) (hD.sub [] (by decide) rfl) hS dX8_isSetting_55
        · refine lv_iconst (v := 1) hx hb dX8_isSetting_50 (by decide) ?_
          refine lv_goto (tgt := 55) hx hb dX8_isSetting_51 (by decide) ?_
          exact hret _ _ (1) () _ _ (Or.inr rfl) (by rw [mX8_isSetting]; (try dsimp only); rw [if_neg c_1]; rw [if_neg c_2]; rw [if_pos c_3]; rw [hw_4]; (try dsimp only); rw [if_neg c_5]; (first | done | rfl)) (hP.sub [] rfl) (hD.sub [] (by decide) rfl) hS dX8_isSetting_55
    · refine lv_iload_n hx hb dX8_isSetting_21 rfl (lv_at hl 1 rfl) ?_
      refine lv_i2l hx hb dX8_isSetting_22 rfl ?_
      refine lv_lconst (v := 0) hx hb dX8_isSetting_23 (by decide) ?_
      refine lv_ldc2 (v := 9) hx hb hown (hts (.constantLong RX8 114 9) (by decide +kernel)) dX8_isSetting_24 ?_
      refine fc_goi (isC := []) (isR := []) (wc := []) (wr := []) hP hD hS hA rfl rfl (by decide) (by decide) (fc_runS (isC := []) (As := [.long p1.toInt64, .long 0, .long 9]) (rest := []) hx hb hml hown hts hK hE hP hD hS hA rfl (by decide) (c_X8_in l D tc p1.toInt64 0 9 _ ) (cwS 3 hts gX8_isSetting_X8_in rfl rfl rfl hd_X8_in ⟨Nat.le_of_ble_eq_true rfl, Nat.le_of_ble_eq_true rfl⟩) rfl hl.1 rfl (Nat.le_of_ble_eq_true rfl) dX8_isSetting_27 ⟨Nat.le_of_ble_eq_true rfl, Nat.le_of_ble_eq_true rfl⟩) (fun r_6 u_6 H locs hw_6 hP hD hS => ?_)
      try dsimp only at hw_6
      have hP : va_P D vwCl [] H := hP
      have hD : va_D A [] := hD
      refine lv_if_ne (tgt := 50) hx hb dX8_isSetting_30 (by decide) (fun c_7 => ?_) (fun c_7 => ?_)
      · refine lv_iconst (v := 1) hx hb dX8_isSetting_50 (by decide) ?_
        refine lv_goto (tgt := 55) hx hb dX8_isSetting_51 (by decide) ?_
        exact hret _ _ (1) () _ _ (Or.inr rfl) (by rw [mX8_isSetting]; (try dsimp only); rw [if_neg c_1]; rw [if_pos c_2]; rw [hw_6]; (try dsimp only); rw [if_neg c_7]; (first | done | rfl)) (hP.sub [] rfl) (hD.sub [] (by decide) rfl) hS dX8_isSetting_55
      · refine lv_iload_n hx hb dX8_isSetting_33 rfl (lv_at hl 0 rfl) ?_
        refine lv_iconst (v := 2) hx hb dX8_isSetting_34 (by decide) ?_
        refine lv_icmp_ne (tgt := 54) hx hb dX8_isSetting_35 (by decide) (fun c_8 => ?_) (fun c_8 => ?_)
        · refine lv_iconst (v := 0) hx hb dX8_isSetting_54 (by decide) ?_
          exact hret _ _ (0) () _ _ (Or.inl rfl) (by rw [mX8_isSetting]; (try dsimp only); rw [if_neg c_1]; rw [if_pos c_2]; rw [hw_6]; (try dsimp only); rw [if_pos c_7]; (first | done | rfl)) (hP.sub [] rfl) (hD.sub [] (by decide) rfl) hS dX8_isSetting_55
        · exact absurd (c_2.symm.trans c_8) (by decide)
  · refine lv_iload_n hx hb dX8_isSetting_4 rfl (lv_at hl 1 rfl) ?_
    refine lv_i2l hx hb dX8_isSetting_5 rfl ?_
    refine lv_lconst (v := 0) hx hb dX8_isSetting_6 (by decide) ?_
    refine lv_ldc2 (v := 8) hx hb hown (hts (.constantLong RX8 181 8) (by decide +kernel)) dX8_isSetting_7 ?_
    refine fc_goi (isC := []) (isR := []) (wc := []) (wr := []) hP hD hS hA rfl rfl (by decide) (by decide) (fc_runS (isC := []) (As := [.long p1.toInt64, .long 0, .long 8]) (rest := []) hx hb hml hown hts hK hE hP hD hS hA rfl (by decide) (c_X8_in l D tc p1.toInt64 0 8 _ ) (cwS 3 hts gX8_isSetting_X8_in rfl rfl rfl hd_X8_in ⟨Nat.le_of_ble_eq_true rfl, Nat.le_of_ble_eq_true rfl⟩) rfl hl.1 rfl (Nat.le_of_ble_eq_true rfl) dX8_isSetting_10 ⟨Nat.le_of_ble_eq_true rfl, Nat.le_of_ble_eq_true rfl⟩) (fun r_9 u_9 H locs hw_9 hP hD hS => ?_)
    try dsimp only at hw_9
    have hP : va_P D vwCl [] H := hP
    have hD : va_D A [] := hD
    refine lv_if_ne (tgt := 50) hx hb dX8_isSetting_13 (by decide) (fun c_10 => ?_) (fun c_10 => ?_)
    · refine lv_iconst (v := 1) hx hb dX8_isSetting_50 (by decide) ?_
      refine lv_goto (tgt := 55) hx hb dX8_isSetting_51 (by decide) ?_
      exact hret _ _ (1) () _ _ (Or.inr rfl) (by rw [mX8_isSetting]; (try dsimp only); rw [if_pos c_1]; rw [hw_9]; (try dsimp only); rw [if_neg c_10]; (first | done | rfl)) (hP.sub [] rfl) (hD.sub [] (by decide) rfl) hS dX8_isSetting_55
    · refine lv_iload_n hx hb dX8_isSetting_16 rfl (lv_at hl 0 rfl) ?_
      refine lv_iconst (v := 1) hx hb dX8_isSetting_17 (by decide) ?_
      refine lv_icmp_ne (tgt := 33) hx hb dX8_isSetting_18 (by decide) (fun c_11 => ?_) (fun c_11 => ?_)
      · refine lv_iload_n hx hb dX8_isSetting_33 rfl (lv_at hl 0 rfl) ?_
        refine lv_iconst (v := 2) hx hb dX8_isSetting_34 (by decide) ?_
        refine lv_icmp_ne (tgt := 54) hx hb dX8_isSetting_35 (by decide) (fun c_12 => ?_) (fun c_12 => ?_)
        · refine lv_iconst (v := 0) hx hb dX8_isSetting_54 (by decide) ?_
          exact hret _ _ (0) () _ _ (Or.inl rfl) (by rw [mX8_isSetting]; (try dsimp only); rw [if_pos c_1]; rw [hw_9]; (try dsimp only); rw [if_pos c_10]; (first | done | rfl)) (hP.sub [] rfl) (hD.sub [] (by decide) rfl) hS dX8_isSetting_55
        · exact absurd (c_1.symm.trans c_12) (by decide)
      · exact absurd (c_1.symm.trans c_11) (by decide)
