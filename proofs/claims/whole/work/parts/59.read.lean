/-! The reference: its reader -/
--# X8_accept
noncomputable def mX8_accept (rf : Int32) (ss : Int32) (sp : Int32) (ig : Int32) (lf : Int32) (ac : Int32) (p0 : Int32) : Int32 × Int32 :=
  if ig = 0 then
    ((sp + 0), 0)
  else
    if p0 = 0 then
      ((sp + 0), 0)
    else
      ((sp + 1), 1)
set_option maxRecDepth 20000 in
theorem iX8_accept_X8 : ∀ w ∈ wsX80, w ∈ wsX8_accept := by decide +kernel
abbrev rmX8_accept : Room := { frames := 0, cells := 0, slots := 0, locals := 0 }
set_option maxHeartbeats 4000000 in
set_option maxRecDepth 100000 in
theorem c_X8_accept (l : Launch) (D : va_G) (tc : Nat → ClassId) (mo : Nat) (sc : Nat) (rd : Nat) (nw : Nat) (tr : Nat) (di : Nat) (kp : Nat) (ik : Nat) (rf : Int32) (ss : Int32) (sp : Int32) (ig : Int32) (lf : Int32) (ac : Int32) (p0 : Int32) (sz : Nat) : Met l yX8_accept wsX8_accept rmX8_accept (va_Pc [.ref mo, .int p0] (fcB D tc [(mo, .inr (8, [.int rf, .ref sc, .int ss, .int sp, .int ig, .int lf, .ref rd, .ref nw, .ref tr, .ref di, .int ac, .ref kp, .ref ik]))] sz)) (va_Qv (fun (u : Int32 × Int32) => mX8_accept rf ss sp ig lf ac p0 = u) (fun u t => fcO D (va_A [(mo, .inr (8, [.int rf, .ref sc, .int ss, .int sp, .int ig, .int lf, .ref rd, .ref nw, .ref tr, .ref di, .int ac, .ref kp, .ref ik]))] sz) ((fun (u : Int32 × Int32) => [(mo, .inr (8, [.int rf, .ref sc, .int ss, .int (u.1), .int (u.2), .int lf, .ref rd, .ref nw, .ref tr, .ref di, .int ac, .ref kp, .ref ik]))]) u) t) (va_A [(mo, .inr (8, [.int rf, .ref sc, .int ss, .int sp, .int ig, .int lf, .ref rd, .ref nw, .ref tr, .ref di, .int ac, .ref kp, .ref ik]))] sz)) 0 0 (va_A [(mo, .inr (8, [.int rf, .ref sc, .int ss, .int sp, .int ig, .int lf, .ref rd, .ref nw, .ref tr, .ref di, .int ac, .ref kp, .ref ik]))] sz) := by
  refine fc_ofWv (own := RX8) (cc := cX8_accept) (maxL := 2) (W1 := (fun (u : Int32 × Int32) => [(mo, .inr (8, [.int rf, .ref sc, .int ss, .int (u.1), .int (u.2), .int lf, .ref rd, .ref nw, .ref tr, .ref di, .int ac, .ref kp, .ref ik]))])) rfl (by decide) rfl (Nat.le_of_ble_eq_true rfl) ?_
  intro p e s m args below meth c A Q hx hb hml hown hts hK hE hP hD hS hA hin hret ls hl
  have hl : lv_has ls 2 [(0, .ref mo), (1, .int p0)] := hl
  refine lv_aload_n hx hb dX8_accept_0 rfl (lv_at hl 0 rfl) ?_
  refine lv_aload_n hx hb dX8_accept_1 rfl (lv_at hl 0 rfl) ?_
  refine va_get (D := D) (ci := 8) (v := .int ig) (C := RX8) (T := TX8) (N := 13) hx hb hts iX8_accept_X8 hown hK hP 0 rfl rfl 4 (by decide) (hts (.fieldLink RX8 110 "FrameCardModel" "isGood" "Z") (by decide +kernel)) (fun _ h9 => h9) rfl dX8_accept_2 ?_
  refine lv_if_eq (tgt := 16) hx hb dX8_accept_5 (by decide) (fun c_1 => ?_) (fun c_1 => ?_)
  · refine lv_iconst (v := 0) hx hb dX8_accept_16 (by decide) ?_
    refine va_put (D := D) (ci := 8) (v := .int 0) (ty := .boolean) (C := RX8) (T := TX8) (N := 13) hx hb hts iX8_accept_X8 tyX8 tyX8_ok nmX8 hown hK hP hD hS 0 rfl rfl 4 (by decide) (hts (.fieldLink RX8 110 "FrameCardModel" "isGood" "Z") (by decide +kernel)) (fun _ h9 => h9) rfl (by decide +kernel) rfl rfl (Nat.le_of_ble_eq_true rfl) dX8_accept_17 (fun H locs hP hD hS => ?_)
    have hP : va_P D vwCl [(mo, .inr (8, [.int rf, .ref sc, .int ss, .int sp, .int 0, .int lf, .ref rd, .ref nw, .ref tr, .ref di, .int ac, .ref kp, .ref ik]))] H := hP
    have hD : va_D A [(mo, .inr (8, [.int rf, .ref sc, .int ss, .int sp, .int 0, .int lf, .ref rd, .ref nw, .ref tr, .ref di, .int ac, .ref kp, .ref ik]))] := hD
    refine lv_aload_n hx hb dX8_accept_20 rfl (lv_at hl 0 rfl) ?_
    refine lv_dup hx hb dX8_accept_21 rfl ?_
    refine va_get (D := D) (ci := 8) (v := .int sp) (C := RX8) (T := TX8) (N := 13) hx hb hts iX8_accept_X8 hown hK hP 0 rfl rfl 3 (by decide) (hts (.fieldLink RX8 107 "FrameCardModel" "spot" "I") (by decide +kernel)) (fun _ h9 => h9) rfl dX8_accept_22 ?_
    refine lv_aload_n hx hb dX8_accept_25 rfl (lv_at hl 0 rfl) ?_
    refine va_get (D := D) (ci := 8) (v := .int 0) (C := RX8) (T := TX8) (N := 13) hx hb hts iX8_accept_X8 hown hK hP 0 rfl rfl 4 (by decide) (hts (.fieldLink RX8 110 "FrameCardModel" "isGood" "Z") (by decide +kernel)) (fun _ h9 => h9) rfl dX8_accept_26 ?_
    refine lv_if_eq (tgt := 36) hx hb dX8_accept_29 (by decide) (fun c_2 => ?_) (fun c_2 => ?_)
    · refine lv_iconst (v := 0) hx hb dX8_accept_36 (by decide) ?_
      refine lv_iadd hx hb dX8_accept_37 ?_
      refine va_put (D := D) (ci := 8) (v := .int (sp + 0)) (ty := .int) (C := RX8) (T := TX8) (N := 13) hx hb hts iX8_accept_X8 tyX8 tyX8_ok nmX8 hown hK hP hD hS 0 rfl rfl 3 (by decide) (hts (.fieldLink RX8 107 "FrameCardModel" "spot" "I") (by decide +kernel)) (fun _ h9 => h9) rfl (by decide +kernel) rfl rfl (Nat.le_of_ble_eq_true rfl) dX8_accept_38 (fun H locs hP hD hS => ?_)
      have hP : va_P D vwCl [(mo, .inr (8, [.int rf, .ref sc, .int ss, .int (sp + 0), .int 0, .int lf, .ref rd, .ref nw, .ref tr, .ref di, .int ac, .ref kp, .ref ik]))] H := hP
      have hD : va_D A [(mo, .inr (8, [.int rf, .ref sc, .int ss, .int (sp + 0), .int 0, .int lf, .ref rd, .ref nw, .ref tr, .ref di, .int ac, .ref kp, .ref ik]))] := hD
      exact hret _ _ ((sp + 0), 0) _ _ (by rw [mX8_accept]; (try dsimp only); rw [if_pos c_1]; (first | done | rfl)) (hP.sub [0] rfl) (hD.sub [0] (by decide) rfl) hS dX8_accept_41
    · exact absurd (by decide) c_2
  · refine lv_iload_n hx hb dX8_accept_8 rfl (lv_at hl 1 rfl) ?_
    refine lv_if_eq (tgt := 16) hx hb dX8_accept_9 (by decide) (fun c_3 => ?_) (fun c_3 => ?_)
    · refine lv_iconst (v := 0) hx hb dX8_accept_16 (by decide) ?_
      refine va_put (D := D) (ci := 8) (v := .int 0) (ty := .boolean) (C := RX8) (T := TX8) (N := 13) hx hb hts iX8_accept_X8 tyX8 tyX8_ok nmX8 hown hK hP hD hS 0 rfl rfl 4 (by decide) (hts (.fieldLink RX8 110 "FrameCardModel" "isGood" "Z") (by decide +kernel)) (fun _ h9 => h9) rfl (by decide +kernel) rfl rfl (Nat.le_of_ble_eq_true rfl) dX8_accept_17 (fun H locs hP hD hS => ?_)
      have hP : va_P D vwCl [(mo, .inr (8, [.int rf, .ref sc, .int ss, .int sp, .int 0, .int lf, .ref rd, .ref nw, .ref tr, .ref di, .int ac, .ref kp, .ref ik]))] H := hP
      have hD : va_D A [(mo, .inr (8, [.int rf, .ref sc, .int ss, .int sp, .int 0, .int lf, .ref rd, .ref nw, .ref tr, .ref di, .int ac, .ref kp, .ref ik]))] := hD
      refine lv_aload_n hx hb dX8_accept_20 rfl (lv_at hl 0 rfl) ?_
      refine lv_dup hx hb dX8_accept_21 rfl ?_
      refine va_get (D := D) (ci := 8) (v := .int sp) (C := RX8) (T := TX8) (N := 13) hx hb hts iX8_accept_X8 hown hK hP 0 rfl rfl 3 (by decide) (hts (.fieldLink RX8 107 "FrameCardModel" "spot" "I") (by decide +kernel)) (fun _ h9 => h9) rfl dX8_accept_22 ?_
      refine lv_aload_n hx hb dX8_accept_25 rfl (lv_at hl 0 rfl) ?_
      refine va_get (D := D) (ci := 8) (v := .int 0) (C := RX8) (T := TX8) (N := 13) hx hb hts iX8_accept_X8 hown hK hP 0 rfl rfl 4 (by decide) (hts (.fieldLink RX8 110 "FrameCardModel" "isGood" "Z") (by decide +kernel)) (fun _ h9 => h9) rfl dX8_accept_26 ?_
      refine lv_if_eq (tgt := 36) hx hb dX8_accept_29 (by decide) (fun c_4 => ?_) (fun c_4 => ?_)
      · refine lv_iconst (v := 0) hx hb dX8_accept_36 (by decide) ?_
        refine lv_iadd hx hb dX8_accept_37 ?_
        refine va_put (D := D) (ci := 8) (v := .int (sp + 0)) (ty := .int) (C := RX8) (T := TX8) (N := 13) hx hb hts iX8_accept_X8 tyX8 tyX8_ok nmX8 hown hK hP hD hS 0 rfl rfl 3 (by decide) (hts (.fieldLink RX8 107 "FrameCardModel" "spot" "I") (by decide +kernel)) (fun _ h9 => h9) rfl (by decide +kernel) rfl rfl (Nat.le_of_ble_eq_true rfl) dX8_accept_38 (fun H locs hP hD hS => ?_)
        have hP : va_P D vwCl [(mo, .inr (8, [.int rf, .ref sc, .int ss, .int (sp + 0), .int 0, .int lf, .ref rd, .ref nw, .ref tr, .ref di, .int ac, .ref kp, .ref ik]))] H := hP
        have hD : va_D A [(mo, .inr (8, [.int rf, .ref sc, .int ss, .int (sp + 0), .int 0, .int lf, .ref rd, .ref nw, .ref tr, .ref di, .int ac, .ref kp, .ref ik]))] := hD
        exact hret _ _ ((sp + 0), 0) _ _ (by rw [mX8_accept]; (try dsimp only); rw [if_neg c_1]; rw [if_pos c_3]; (first | done | rfl)) (hP.sub [0] rfl) (hD.sub [0] (by decide) rfl) hS dX8_accept_41
      · exact absurd (by decide) c_4
    · refine lv_iconst (v := 1) hx hb dX8_accept_12 (by decide) ?_
      refine lv_goto (tgt := 17) hx hb dX8_accept_13 (by decide) ?_
      refine va_put (D := D) (ci := 8) (v := .int 1) (ty := .boolean) (C := RX8) (T := TX8) (N := 13) hx hb hts iX8_accept_X8 tyX8 tyX8_ok nmX8 hown hK hP hD hS 0 rfl rfl 4 (by decide) (hts (.fieldLink RX8 110 "FrameCardModel" "isGood" "Z") (by decide +kernel)) (fun _ h9 => h9) rfl (by decide +kernel) rfl rfl (Nat.le_of_ble_eq_true rfl) dX8_accept_17 (fun H locs hP hD hS => ?_)
      have hP : va_P D vwCl [(mo, .inr (8, [.int rf, .ref sc, .int ss, .int sp, .int 1, .int lf, .ref rd, .ref nw, .ref tr, .ref di, .int ac, .ref kp, .ref ik]))] H := hP
      have hD : va_D A [(mo, .inr (8, [.int rf, .ref sc, .int ss, .int sp, .int 1, .int lf, .ref rd, .ref nw, .ref tr, .ref di, .int ac, .ref kp, .ref ik]))] := hD
      refine lv_aload_n hx hb dX8_accept_20 rfl (lv_at hl 0 rfl) ?_
      refine lv_dup hx hb dX8_accept_21 rfl ?_
      refine va_get (D := D) (ci := 8) (v := .int sp) (C := RX8) (T := TX8) (N := 13) hx hb hts iX8_accept_X8 hown hK hP 0 rfl rfl 3 (by decide) (hts (.fieldLink RX8 107 "FrameCardModel" "spot" "I") (by decide +kernel)) (fun _ h9 => h9) rfl dX8_accept_22 ?_
      refine lv_aload_n hx hb dX8_accept_25 rfl (lv_at hl 0 rfl) ?_
      refine va_get (D := D) (ci := 8) (v := .int 1) (C := RX8) (T := TX8) (N := 13) hx hb hts iX8_accept_X8 hown hK hP 0 rfl rfl 4 (by decide) (hts (.fieldLink RX8 110 "FrameCardModel" "isGood" "Z") (by decide +kernel)) (fun _ h9 => h9) rfl dX8_accept_26 ?_
      refine lv_if_eq (tgt := 36) hx hb dX8_accept_29 (by decide) (fun c_5 => ?_) (fun c_5 => ?_)
      · exact absurd c_5 (by decide)
      · refine lv_iconst (v := 1) hx hb dX8_accept_32 (by decide) ?_
        refine lv_goto (tgt := 37) hx hb dX8_accept_33 (by decide) ?_
        refine lv_iadd hx hb dX8_accept_37 ?_
        refine va_put (D := D) (ci := 8) (v := .int (sp + 1)) (ty := .int) (C := RX8) (T := TX8) (N := 13) hx hb hts iX8_accept_X8 tyX8 tyX8_ok nmX8 hown hK hP hD hS 0 rfl rfl 3 (by decide) (hts (.fieldLink RX8 107 "FrameCardModel" "spot" "I") (by decide +kernel)) (fun _ h9 => h9) rfl (by decide +kernel) rfl rfl (Nat.le_of_ble_eq_true rfl) dX8_accept_38 (fun H locs hP hD hS => ?_)
        have hP : va_P D vwCl [(mo, .inr (8, [.int rf, .ref sc, .int ss, .int (sp + 1), .int 1, .int lf, .ref rd, .ref nw, .ref tr, .ref di, .int ac, .ref kp, .ref ik]))] H := hP
        have hD : va_D A [(mo, .inr (8, [.int rf, .ref sc, .int ss, .int (sp + 1), .int 1, .int lf, .ref rd, .ref nw, .ref tr, .ref di, .int ac, .ref kp, .ref ik]))] := hD
        exact hret _ _ ((sp + 1), 1) _ _ (by rw [mX8_accept]; (try dsimp only); rw [if_neg c_1]; rw [if_neg c_3]; (first | done | rfl)) (hP.sub [0] rfl) (hD.sub [0] (by decide) rfl) hS dX8_accept_41
theorem fr_accept_eq {rf ss sp ig lf ac : Int32} {p : Int32} : mX8_accept rf ss sp ig lf ac p = if ig = 0 ∨ p = 0 then (sp, 0) else (sp + 1, 1) := by
  unfold mX8_accept
  have z : sp + 0 = sp := Int32.add_zero sp
  by_cases h1 : ig = 0
  · rw [if_pos h1, if_pos (Or.inl h1), z]
  · rw [if_neg h1]
    by_cases h2 : p = 0
    · rw [if_pos h2, if_pos (Or.inr h2), z]
    · rw [if_neg h2, if_neg (by simp [h1, h2])]
theorem fr_sp1 {sp : Int32} (h : 0 ≤ sp.toInt ∧ sp.toInt ≤ 20000) : (sp + 1).toInt = sp.toInt + 1 := fc_addk (by decide) (by omega) (by omega)
/-- good: 1, and one further; or 0 and where it was -/
def pMove (sp ig sp' ig' : Int32) (n : Int) : Prop := (ig'.toInt = 0 ∨ ig'.toInt = 1) ∧ sp.toInt ≤ sp'.toInt ∧ sp'.toInt ≤ sp.toInt + n ∧ (ig'.toInt = 0 ∨ (sp'.toInt = sp.toInt + n ∧ ¬ ig.toInt = 0))
theorem pMove.trans {a b c i j k : Int32} {m n : Int} (h1 : pMove a i b j m) (h2 : pMove b j c k n) : pMove a i c k (m + n) := by
  unfold pMove at *
  omega
theorem fr_acceptM {rf ss sp ig lf ac : Int32} {p sp' ig' : Int32} (h : mX8_accept rf ss sp ig lf ac p = (sp', ig')) (hs : 0 ≤ sp.toInt ∧ sp.toInt ≤ 20000) : pMove sp ig sp' ig' 1 := by
  rw [fr_accept_eq] at h
  have l0 : (0 : Int32).toInt = 0 := by decide
  have l1 : (1 : Int32).toInt = 1 := by decide
  have e := fr_sp1 hs
  unfold pMove
  split at h
  · obtain ⟨e1, e2⟩ := Prod.mk.inj h
    subst e1 e2
    omega
  · next hc =>
    obtain ⟨e1, e2⟩ := Prod.mk.inj h
    subst e1 e2
    have : ¬ ig.toInt = 0 := fun z => hc (Or.inl (by rw [fc_eq]; omega))
    omega
theorem fr_accept {rf ss sp ig lf ac : Int32} {p sp' ig' : Int32} (h : mX8_accept rf ss sp ig lf ac p = (sp', ig')) (hs : 0 ≤ sp.toInt ∧ sp.toInt ≤ 20000) : sp.toInt ≤ sp'.toInt ∧ sp'.toInt ≤ sp.toInt + 1 := by
  have := fr_acceptM h hs
  unfold pMove at this
  omega
--# X8_digit
theorem hd_X8_accept : yX8_accept.cls = RX8 ∧ yX8_accept.cls ≠ "java/lang/invoke/MethodHandle" ∧ yX8_accept.cls ≠ "java/lang/invoke/VarHandle" ∧ (parseMethodDescriptor yX8_accept.desc).map (fun d => d.parameters.length) = some 1 := by decide +kernel
theorem hd_X8_acceptn : yX8_accept.cls ≠ "java/lang/invoke/MethodHandle" ∧ yX8_accept.cls ≠ "java/lang/invoke/VarHandle" ∧ (parseMethodDescriptor yX8_accept.desc).map (fun d => d.parameters.length) = some 1 := by decide +kernel
noncomputable def mX8_digit (rf : Int32) (ss : Int32) (sp : Int32) (ig : Int32) (lf : Int32) (ac : Int32) (scr : Nat → Int32) (p0 : Int32) (p1 : Int32) : Int32 × Int32 × Int32 :=
  if ss ≤ sp then
    let r_2 := mX8_in (((-1) : Int32).toInt64) 0 9
    if r_2 = 0 then
      match mX8_accept rf ss sp ig lf ac 0 with
      | (sp_4, ig_4) =>
        if ig_4 = 0 then
          (p0, sp_4, ig_4)
        else
          ((-1), sp_4, ig_4)
    else
      let r_6 := mX8_in (((-1) : Int32).toInt64) p0.toInt64 p1.toInt64
      if r_6 = 0 then
        match mX8_accept rf ss sp ig lf ac 0 with
        | (sp_8, ig_8) =>
          if ig_8 = 0 then
            (p0, sp_8, ig_8)
          else
            ((-1), sp_8, ig_8)
      else
        match mX8_accept rf ss sp ig lf ac 1 with
        | (sp_10, ig_10) =>
          if ig_10 = 0 then
            (p0, sp_10, ig_10)
          else
            ((-1), sp_10, ig_10)
  else
    let r_12 := mX8_in ((((scr sp.toNatClampNeg) - 48) : Int32).toInt64) 0 9
    if r_12 = 0 then
      match mX8_accept rf ss sp ig lf ac 0 with
      | (sp_14, ig_14) =>
        if ig_14 = 0 then
          (p0, sp_14, ig_14)
        else
          (((scr sp.toNatClampNeg) - 48), sp_14, ig_14)
    else
      let r_16 := mX8_in ((((scr sp.toNatClampNeg) - 48) : Int32).toInt64) p0.toInt64 p1.toInt64
      if r_16 = 0 then
        match mX8_accept rf ss sp ig lf ac 0 with
        | (sp_18, ig_18) =>
          if ig_18 = 0 then
            (p0, sp_18, ig_18)
          else
            (((scr sp.toNatClampNeg) - 48), sp_18, ig_18)
      else
        match mX8_accept rf ss sp ig lf ac 1 with
        | (sp_20, ig_20) =>
          if ig_20 = 0 then
            (p0, sp_20, ig_20)
          else
            (((scr sp.toNatClampNeg) - 48), sp_20, ig_20)
set_option maxRecDepth 20000 in
theorem iX8_digit_X8 : ∀ w ∈ wsX80, w ∈ wsX8_digit := by decide +kernel
abbrev rmX8_digit : Room := { frames := 1, cells := 0, slots := 0, locals := 25 }
set_option maxHeartbeats 4000000 in
set_option maxRecDepth 100000 in
theorem c_X8_digit (l : Launch) (D : va_G) (tc : Nat → ClassId) (mo : Nat) (sc : Nat) (rd : Nat) (nw : Nat) (tr : Nat) (di : Nat) (kp : Nat) (ik : Nat) (rf : Int32) (ss : Int32) (sp : Int32) (ig : Int32) (lf : Int32) (ac : Int32) (scr : Nat → Int32) (p0 : Int32) (p1 : Int32) (sz : Nat) (hsp : 0 ≤ sp.toInt ∧ sp.toInt ≤ 20000) (hss : 0 ≤ ss.toInt ∧ ss.toInt ≤ 120) : Met l yX8_digit wsX8_digit rmX8_digit (va_Pc [.ref mo, .int p0, .int p1] (fcB D tc [(mo, .inr (8, [.int rf, .ref sc, .int ss, .int sp, .int ig, .int lf, .ref rd, .ref nw, .ref tr, .ref di, .int ac, .ref kp, .ref ik])), (sc, .inl (tc 0, 120, .inl scr))] sz)) (va_Qi (fun (r : Int32) (u : Int32 × Int32) => mX8_digit rf ss sp ig lf ac scr p0 p1 = (r, u)) (fun u t => fcO D (va_A [(mo, .inr (8, [.int rf, .ref sc, .int ss, .int sp, .int ig, .int lf, .ref rd, .ref nw, .ref tr, .ref di, .int ac, .ref kp, .ref ik])), (sc, .inl (tc 0, 120, .inl scr))] sz) ((fun (u : Int32 × Int32) => [(mo, .inr (8, [.int rf, .ref sc, .int ss, .int (u.1), .int (u.2), .int lf, .ref rd, .ref nw, .ref tr, .ref di, .int ac, .ref kp, .ref ik])), (sc, .inl (tc 0, 120, .inl scr))]) u) t) (va_A [(mo, .inr (8, [.int rf, .ref sc, .int ss, .int sp, .int ig, .int lf, .ref rd, .ref nw, .ref tr, .ref di, .int ac, .ref kp, .ref ik])), (sc, .inl (tc 0, 120, .inl scr))] sz)) 0 0 (va_A [(mo, .inr (8, [.int rf, .ref sc, .int ss, .int sp, .int ig, .int lf, .ref rd, .ref nw, .ref tr, .ref di, .int ac, .ref kp, .ref ik])), (sc, .inl (tc 0, 120, .inl scr))] sz) := by
  refine fc_ofWi (own := RX8) (cc := cX8_digit) (maxL := 4) (W1 := (fun (u : Int32 × Int32) => [(mo, .inr (8, [.int rf, .ref sc, .int ss, .int (u.1), .int (u.2), .int lf, .ref rd, .ref nw, .ref tr, .ref di, .int ac, .ref kp, .ref ik])), (sc, .inl (tc 0, 120, .inl scr))])) rfl (by decide) rfl (Nat.le_of_ble_eq_true rfl) ?_
  intro p e s m args below meth c A Q hx hb hml hown hts hK hE hP hD hS hA hin hret ls hl
  have hl : lv_has ls 4 [(0, .ref mo), (1, .int p0), (2, .int p1)] := hl
  refine lv_aload_n hx hb dX8_digit_0 rfl (lv_at hl 0 rfl) ?_
  refine va_get (D := D) (ci := 8) (v := .int sp) (C := RX8) (T := TX8) (N := 13) hx hb hts iX8_digit_X8 hown hK hP 0 rfl rfl 3 (by decide) (hts (.fieldLink RX8 107 "FrameCardModel" "spot" "I") (by decide +kernel)) (fun _ h9 => h9) rfl dX8_digit_1 ?_
  refine lv_aload_n hx hb dX8_digit_4 rfl (lv_at hl 0 rfl) ?_
  refine va_get (D := D) (ci := 8) (v := .int ss) (C := RX8) (T := TX8) (N := 13) hx hb hts iX8_digit_X8 hown hK hP 0 rfl rfl 2 (by decide) (hts (.fieldLink RX8 100 "FrameCardModel" "scriptSize" "I") (by decide +kernel)) (fun _ h9 => h9) rfl dX8_digit_5 ?_
  refine lv_icmp_ge (tgt := 26) hx hb dX8_digit_8 (by decide) (fun c_1 => ?_) (fun c_1 => ?_)
  · refine lv_iconst (v := (-1)) hx hb dX8_digit_26 (by decide) ?_
    refine lv_istore_n (lv' := [(3, .int (-1)), (0, .ref mo), (1, .int p0), (2, .int p1)]) hx hb dX8_digit_27 rfl hl (by decide) rfl (fun ls hl => ?_)
    refine lv_aload_n hx hb dX8_digit_28 rfl (lv_at hl 1 rfl) ?_
    refine lv_iload_n hx hb dX8_digit_29 rfl (lv_at hl 0 rfl) ?_
    refine lv_i2l hx hb dX8_digit_30 rfl ?_
    refine lv_lconst (v := 0) hx hb dX8_digit_31 (by decide) ?_
    refine lv_ldc2 (v := 9) hx hb hown (hts (.constantLong RX8 114 9) (by decide +kernel)) dX8_digit_32 ?_
    refine fc_goi (isC := []) (isR := [0, 1]) (wc := []) (wr := [(mo, .inr (8, [.int rf, .ref sc, .int ss, .int sp, .int ig, .int lf, .ref rd, .ref nw, .ref tr, .ref di, .int ac, .ref kp, .ref ik])), (sc, .inl (tc 0, 120, .inl scr))]) hP hD hS hA rfl rfl (by decide) (by decide) (fc_runS (isC := []) (As := [.long ((-1) : Int32).toInt64, .long 0, .long 9]) (rest := [.ref mo]) hx hb hml hown hts hK hE hP hD hS hA rfl (by decide) (c_X8_in l D tc (((-1) : Int32).toInt64) 0 9 _ ) (cwS 3 hts gX8_digit_X8_in rfl rfl rfl hd_X8_in ⟨Nat.le_of_ble_eq_true rfl, Nat.le_of_ble_eq_true rfl⟩) rfl hl.1 rfl (Nat.le_of_ble_eq_true rfl) dX8_digit_35 ⟨Nat.le_of_ble_eq_true rfl, Nat.le_of_ble_eq_true rfl⟩) (fun r_2 u_2 H locs hw_2 hP hD hS => ?_)
    try dsimp only at hw_2
    have hP : va_P D vwCl [(mo, .inr (8, [.int rf, .ref sc, .int ss, .int sp, .int ig, .int lf, .ref rd, .ref nw, .ref tr, .ref di, .int ac, .ref kp, .ref ik])), (sc, .inl (tc 0, 120, .inl scr))] H := hP
    have hD : va_D A [(mo, .inr (8, [.int rf, .ref sc, .int ss, .int sp, .int ig, .int lf, .ref rd, .ref nw, .ref tr, .ref di, .int ac, .ref kp, .ref ik])), (sc, .inl (tc 0, 120, .inl scr))] := hD
    have hi_2 := fx_in3 hw_2 (A := (-1)) (B := 0) (C := 9) (by decide) (by decide) (by decide)
    refine lv_if_eq (tgt := 57) hx hb dX8_digit_38 (by decide) (fun c_3 => ?_) (fun c_3 => ?_)
    · refine lv_iconst (v := 0) hx hb dX8_digit_57 (by decide) ?_
      refine fc_gov (isC := [0]) (isR := [1]) (wc := [(mo, .inr (8, [.int rf, .ref sc, .int ss, .int sp, .int ig, .int lf, .ref rd, .ref nw, .ref tr, .ref di, .int ac, .ref kp, .ref ik]))]) (wr := [(sc, .inl (tc 0, 120, .inl scr))]) hP hD hS hA rfl rfl (by decide) (by decide) (fc_runV (isC := [0]) (As := [.int 0]) (rest := []) hx hb hml hown hts hK hE hP hD hS hA rfl (by decide) (c_X8_accept l D tc mo sc rd nw tr di kp ik rf ss sp ig lf ac 0 _ ) (cwV 1 hts gX8_digit_X8_accept rfl rfl rfl hd_X8_accept ⟨Nat.le_of_ble_eq_true rfl, Nat.le_of_ble_eq_true rfl⟩) (ci := 8) rfl rfl rfl rfl hl.1 rfl (Nat.le_of_ble_eq_true rfl) dX8_digit_58 ⟨Nat.le_of_ble_eq_true rfl, Nat.le_of_ble_eq_true rfl⟩) (fun u_4 H locs hw_4 hP hD hS => ?_)
      obtain ⟨sp_4, ig_4⟩ := u_4
      try dsimp only at hw_4
      have hP : va_P D vwCl [(sc, .inl (tc 0, 120, .inl scr)), (mo, .inr (8, [.int rf, .ref sc, .int ss, .int sp_4, .int ig_4, .int lf, .ref rd, .ref nw, .ref tr, .ref di, .int ac, .ref kp, .ref ik]))] H := hP
      have hD : va_D A [(sc, .inl (tc 0, 120, .inl scr)), (mo, .inr (8, [.int rf, .ref sc, .int ss, .int sp_4, .int ig_4, .int lf, .ref rd, .ref nw, .ref tr, .ref di, .int ac, .ref kp, .ref ik]))] := hD
      refine lv_aload_n hx hb dX8_digit_61 rfl (lv_at hl 1 rfl) ?_
      refine va_get (D := D) (ci := 8) (v := .int ig_4) (C := RX8) (T := TX8) (N := 13) hx hb hts iX8_digit_X8 hown hK hP 1 rfl rfl 4 (by decide) (hts (.fieldLink RX8 110 "FrameCardModel" "isGood" "Z") (by decide +kernel)) (fun _ h9 => h9) rfl dX8_digit_62 ?_
      refine lv_if_eq (tgt := 72) hx hb dX8_digit_65 (by decide) (fun c_5 => ?_) (fun c_5 => ?_)
      · refine lv_iload_n hx hb dX8_digit_72 rfl (lv_at hl 2 rfl) ?_
        exact hret _ _ (p0) (sp_4, ig_4) _ _ (by rw [mX8_digit]; (try dsimp only); rw [if_pos c_1]; rw [hw_2]; (try dsimp only); rw [if_pos c_3]; rw [hw_4]; (try dsimp only); rw [if_pos c_5]; (first | done | rfl)) (hP.sub [1, 0] rfl) (hD.sub [1, 0] (by decide) rfl) hS dX8_digit_73
      · refine lv_iload_n hx hb dX8_digit_68 rfl (lv_at hl 0 rfl) ?_
        refine lv_goto (tgt := 73) hx hb dX8_digit_69 (by decide) ?_
        exact hret _ _ (-1) (sp_4, ig_4) _ _ (by rw [mX8_digit]; (try dsimp only); rw [if_pos c_1]; rw [hw_2]; (try dsimp only); rw [if_pos c_3]; rw [hw_4]; (try dsimp only); rw [if_neg c_5]; (first | done | rfl)) (hP.sub [1, 0] rfl) (hD.sub [1, 0] (by decide) rfl) hS dX8_digit_73
    · have hj_2 := hi_2.resolve_left c_3
      refine lv_iload_n hx hb dX8_digit_41 rfl (lv_at hl 0 rfl) ?_
      refine lv_i2l hx hb dX8_digit_42 rfl ?_
      refine lv_iload_n hx hb dX8_digit_43 rfl (lv_at hl 2 rfl) ?_
      refine lv_i2l hx hb dX8_digit_44 rfl ?_
      refine lv_iload_n hx hb dX8_digit_45 rfl (lv_at hl 3 rfl) ?_
      refine lv_i2l hx hb dX8_digit_46 rfl ?_
      refine fc_goi (isC := []) (isR := [0, 1]) (wc := []) (wr := [(mo, .inr (8, [.int rf, .ref sc, .int ss, .int sp, .int ig, .int lf, .ref rd, .ref nw, .ref tr, .ref di, .int ac, .ref kp, .ref ik])), (sc, .inl (tc 0, 120, .inl scr))]) hP hD hS hA rfl rfl (by decide) (by decide) (fc_runS (isC := []) (As := [.long ((-1) : Int32).toInt64, .long p0.toInt64, .long p1.toInt64]) (rest := [.ref mo]) hx hb hml hown hts hK hE hP hD hS hA rfl (by decide) (c_X8_in l D tc (((-1) : Int32).toInt64) p0.toInt64 p1.toInt64 _ ) (cwS 3 hts gX8_digit_X8_in rfl rfl rfl hd_X8_in ⟨Nat.le_of_ble_eq_true rfl, Nat.le_of_ble_eq_true rfl⟩) rfl hl.1 rfl (Nat.le_of_ble_eq_true rfl) dX8_digit_47 ⟨Nat.le_of_ble_eq_true rfl, Nat.le_of_ble_eq_true rfl⟩) (fun r_6 u_6 H locs hw_6 hP hD hS => ?_)
      try dsimp only at hw_6
      have hP : va_P D vwCl [(mo, .inr (8, [.int rf, .ref sc, .int ss, .int sp, .int ig, .int lf, .ref rd, .ref nw, .ref tr, .ref di, .int ac, .ref kp, .ref ik])), (sc, .inl (tc 0, 120, .inl scr))] H := hP
      have hD : va_D A [(mo, .inr (8, [.int rf, .ref sc, .int ss, .int sp, .int ig, .int lf, .ref rd, .ref nw, .ref tr, .ref di, .int ac, .ref kp, .ref ik])), (sc, .inl (tc 0, 120, .inl scr))] := hD
      have hi_6 := fx_in3 hw_6 (A := (-1)) (B := p0.toInt) (C := p1.toInt) (by decide) (Int32.toInt_toInt64 _) (Int32.toInt_toInt64 _)
      refine lv_if_eq (tgt := 57) hx hb dX8_digit_50 (by decide) (fun c_7 => ?_) (fun c_7 => ?_)
      · refine lv_iconst (v := 0) hx hb dX8_digit_57 (by decide) ?_
        refine fc_gov (isC := [0]) (isR := [1]) (wc := [(mo, .inr (8, [.int rf, .ref sc, .int ss, .int sp, .int ig, .int lf, .ref rd, .ref nw, .ref tr, .ref di, .int ac, .ref kp, .ref ik]))]) (wr := [(sc, .inl (tc 0, 120, .inl scr))]) hP hD hS hA rfl rfl (by decide) (by decide) (fc_runV (isC := [0]) (As := [.int 0]) (rest := []) hx hb hml hown hts hK hE hP hD hS hA rfl (by decide) (c_X8_accept l D tc mo sc rd nw tr di kp ik rf ss sp ig lf ac 0 _ ) (cwV 1 hts gX8_digit_X8_accept rfl rfl rfl hd_X8_accept ⟨Nat.le_of_ble_eq_true rfl, Nat.le_of_ble_eq_true rfl⟩) (ci := 8) rfl rfl rfl rfl hl.1 rfl (Nat.le_of_ble_eq_true rfl) dX8_digit_58 ⟨Nat.le_of_ble_eq_true rfl, Nat.le_of_ble_eq_true rfl⟩) (fun u_8 H locs hw_8 hP hD hS => ?_)
        obtain ⟨sp_8, ig_8⟩ := u_8
        try dsimp only at hw_8
        have hP : va_P D vwCl [(sc, .inl (tc 0, 120, .inl scr)), (mo, .inr (8, [.int rf, .ref sc, .int ss, .int sp_8, .int ig_8, .int lf, .ref rd, .ref nw, .ref tr, .ref di, .int ac, .ref kp, .ref ik]))] H := hP
        have hD : va_D A [(sc, .inl (tc 0, 120, .inl scr)), (mo, .inr (8, [.int rf, .ref sc, .int ss, .int sp_8, .int ig_8, .int lf, .ref rd, .ref nw, .ref tr, .ref di, .int ac, .ref kp, .ref ik]))] := hD
        refine lv_aload_n hx hb dX8_digit_61 rfl (lv_at hl 1 rfl) ?_
        refine va_get (D := D) (ci := 8) (v := .int ig_8) (C := RX8) (T := TX8) (N := 13) hx hb hts iX8_digit_X8 hown hK hP 1 rfl rfl 4 (by decide) (hts (.fieldLink RX8 110 "FrameCardModel" "isGood" "Z") (by decide +kernel)) (fun _ h9 => h9) rfl dX8_digit_62 ?_
        refine lv_if_eq (tgt := 72) hx hb dX8_digit_65 (by decide) (fun c_9 => ?_) (fun c_9 => ?_)
        · refine lv_iload_n hx hb dX8_digit_72 rfl (lv_at hl 2 rfl) ?_
          exact hret _ _ (p0) (sp_8, ig_8) _ _ (by rw [mX8_digit]; (try dsimp only); rw [if_pos c_1]; rw [hw_2]; (try dsimp only); rw [if_neg c_3]; rw [hw_6]; (try dsimp only); rw [if_pos c_7]; rw [hw_8]; (try dsimp only); rw [if_pos c_9]; (first | done | rfl)) (hP.sub [1, 0] rfl) (hD.sub [1, 0] (by decide) rfl) hS dX8_digit_73
        · refine lv_iload_n hx hb dX8_digit_68 rfl (lv_at hl 0 rfl) ?_
          refine lv_goto (tgt := 73) hx hb dX8_digit_69 (by decide) ?_
          exact hret _ _ (-1) (sp_8, ig_8) _ _ (by rw [mX8_digit]; (try dsimp only); rw [if_pos c_1]; rw [hw_2]; (try dsimp only); rw [if_neg c_3]; rw [hw_6]; (try dsimp only); rw [if_pos c_7]; rw [hw_8]; (try dsimp only); rw [if_neg c_9]; (first | done | rfl)) (hP.sub [1, 0] rfl) (hD.sub [1, 0] (by decide) rfl) hS dX8_digit_73
      · have hj_6 := hi_6.resolve_left c_7
        refine lv_iconst (v := 1) hx hb dX8_digit_53 (by decide) ?_
        refine lv_goto (tgt := 58) hx hb dX8_digit_54 (by decide) ?_
        refine fc_gov (isC := [0]) (isR := [1]) (wc := [(mo, .inr (8, [.int rf, .ref sc, .int ss, .int sp, .int ig, .int lf, .ref rd, .ref nw, .ref tr, .ref di, .int ac, .ref kp, .ref ik]))]) (wr := [(sc, .inl (tc 0, 120, .inl scr))]) hP hD hS hA rfl rfl (by decide) (by decide) (fc_runV (isC := [0]) (As := [.int 1]) (rest := []) hx hb hml hown hts hK hE hP hD hS hA rfl (by decide) (c_X8_accept l D tc mo sc rd nw tr di kp ik rf ss sp ig lf ac 1 _ ) (cwV 1 hts gX8_digit_X8_accept rfl rfl rfl hd_X8_accept ⟨Nat.le_of_ble_eq_true rfl, Nat.le_of_ble_eq_true rfl⟩) (ci := 8) rfl rfl rfl rfl hl.1 rfl (Nat.le_of_ble_eq_true rfl) dX8_digit_58 ⟨Nat.le_of_ble_eq_true rfl, Nat.le_of_ble_eq_true rfl⟩) (fun u_10 H locs hw_10 hP hD hS => ?_)
        obtain ⟨sp_10, ig_10⟩ := u_10
        try dsimp only at hw_10
        have hP : va_P D vwCl [(sc, .inl (tc 0, 120, .inl scr)), (mo, .inr (8, [.int rf, .ref sc, .int ss, .int sp_10, .int ig_10, .int lf, .ref rd, .ref nw, .ref tr, .ref di, .int ac, .ref kp, .ref ik]))] H := hP
        have hD : va_D A [(sc, .inl (tc 0, 120, .inl scr)), (mo, .inr (8, [.int rf, .ref sc, .int ss, .int sp_10, .int ig_10, .int lf, .ref rd, .ref nw, .ref tr, .ref di, .int ac, .ref kp, .ref ik]))] := hD
        refine lv_aload_n hx hb dX8_digit_61 rfl (lv_at hl 1 rfl) ?_
        refine va_get (D := D) (ci := 8) (v := .int ig_10) (C := RX8) (T := TX8) (N := 13) hx hb hts iX8_digit_X8 hown hK hP 1 rfl rfl 4 (by decide) (hts (.fieldLink RX8 110 "FrameCardModel" "isGood" "Z") (by decide +kernel)) (fun _ h9 => h9) rfl dX8_digit_62 ?_
        refine lv_if_eq (tgt := 72) hx hb dX8_digit_65 (by decide) (fun c_11 => ?_) (fun c_11 => ?_)
        · refine lv_iload_n hx hb dX8_digit_72 rfl (lv_at hl 2 rfl) ?_
          exact hret _ _ (p0) (sp_10, ig_10) _ _ (by rw [mX8_digit]; (try dsimp only); rw [if_pos c_1]; rw [hw_2]; (try dsimp only); rw [if_neg c_3]; rw [hw_6]; (try dsimp only); rw [if_neg c_7]; rw [hw_10]; (try dsimp only); rw [if_pos c_11]; (first | done | rfl)) (hP.sub [1, 0] rfl) (hD.sub [1, 0] (by decide) rfl) hS dX8_digit_73
        · refine lv_iload_n hx hb dX8_digit_68 rfl (lv_at hl 0 rfl) ?_
          refine lv_goto (tgt := 73) hx hb dX8_digit_69 (by decide) ?_
          exact hret _ _ (-1) (sp_10, ig_10) _ _ (by rw [mX8_digit]; (try dsimp only); rw [if_pos c_1]; rw [hw_2]; (try dsimp only); rw [if_neg c_3]; rw [hw_6]; (try dsimp only); rw [if_neg c_7]; rw [hw_10]; (try dsimp only); rw [if_neg c_11]; (first | done | rfl)) (hP.sub [1, 0] rfl) (hD.sub [1, 0] (by decide) rfl) hS dX8_digit_73
  · refine lv_aload_n hx hb dX8_digit_11 rfl (lv_at hl 0 rfl) ?_
    refine va_get (D := D) (ci := 8) (v := .ref sc) (C := RX8) (T := TX8) (N := 13) hx hb hts iX8_digit_X8 hown hK hP 0 rfl rfl 1 (by decide) (hts (.fieldLink RX8 7 "FrameCardModel" "script" "[I") (by decide +kernel)) (fun _ h9 => h9) rfl dX8_digit_12 ?_
    refine lv_aload_n hx hb dX8_digit_15 rfl (lv_at hl 0 rfl) ?_
    refine va_get (D := D) (ci := 8) (v := .int sp) (C := RX8) (T := TX8) (N := 13) hx hb hts iX8_digit_X8 hown hK hP 0 rfl rfl 3 (by decide) (hts (.fieldLink RX8 107 "FrameCardModel" "spot" "I") (by decide +kernel)) (fun _ h9 => h9) rfl dX8_digit_16 ?_
    refine va_iald (D := D) hx hb hK hP 1 0 rfl rfl (by have l_0 : (0 : Int32).toInt = 0 := (by decide); have l_1 : (1 : Int32).toInt = 1 := (by decide); have l_2 : (2 : Int32).toInt = 2 := (by decide); have l_3 : (3 : Int32).toInt = 3 := (by decide); have l_4 : (4 : Int32).toInt = 4 := (by decide); have qc_1 := c_1; (try simp only [fc_le, fc_lt, fc_eq] at qc_1); rw [vp_in_iff]; omega) dX8_digit_19 ?_
    refine lv_bipush (v := 48) hx hb dX8_digit_20 (by decide) ?_
    refine lv_isub hx hb dX8_digit_22 ?_
    refine lv_goto (tgt := 27) hx hb dX8_digit_23 (by decide) ?_
    refine lv_istore_n (lv' := [(3, .int ((scr sp.toNatClampNeg) - 48)), (0, .ref mo), (1, .int p0), (2, .int p1)]) hx hb dX8_digit_27 rfl hl (by decide) rfl (fun ls hl => ?_)
    refine lv_aload_n hx hb dX8_digit_28 rfl (lv_at hl 1 rfl) ?_
    refine lv_iload_n hx hb dX8_digit_29 rfl (lv_at hl 0 rfl) ?_
    refine lv_i2l hx hb dX8_digit_30 rfl ?_
    refine lv_lconst (v := 0) hx hb dX8_digit_31 (by decide) ?_
    refine lv_ldc2 (v := 9) hx hb hown (hts (.constantLong RX8 114 9) (by decide +kernel)) dX8_digit_32 ?_
    refine fc_goi (isC := []) (isR := [0, 1]) (wc := []) (wr := [(mo, .inr (8, [.int rf, .ref sc, .int ss, .int sp, .int ig, .int lf, .ref rd, .ref nw, .ref tr, .ref di, .int ac, .ref kp, .ref ik])), (sc, .inl (tc 0, 120, .inl scr))]) hP hD hS hA rfl rfl (by decide) (by decide) (fc_runS (isC := []) (As := [.long (((scr sp.toNatClampNeg) - 48) : Int32).toInt64, .long 0, .long 9]) (rest := [.ref mo]) hx hb hml hown hts hK hE hP hD hS hA rfl (by decide) (c_X8_in l D tc ((((scr sp.toNatClampNeg) - 48) : Int32).toInt64) 0 9 _ ) (cwS 3 hts gX8_digit_X8_in rfl rfl rfl hd_X8_in ⟨Nat.le_of_ble_eq_true rfl, Nat.le_of_ble_eq_true rfl⟩) rfl hl.1 rfl (Nat.le_of_ble_eq_true rfl) dX8_digit_35 ⟨Nat.le_of_ble_eq_true rfl, Nat.le_of_ble_eq_true rfl⟩) (fun r_12 u_12 H locs hw_12 hP hD hS => ?_)
    try dsimp only at hw_12
    have hP : va_P D vwCl [(mo, .inr (8, [.int rf, .ref sc, .int ss, .int sp, .int ig, .int lf, .ref rd, .ref nw, .ref tr, .ref di, .int ac, .ref kp, .ref ik])), (sc, .inl (tc 0, 120, .inl scr))] H := hP
    have hD : va_D A [(mo, .inr (8, [.int rf, .ref sc, .int ss, .int sp, .int ig, .int lf, .ref rd, .ref nw, .ref tr, .ref di, .int ac, .ref kp, .ref ik])), (sc, .inl (tc 0, 120, .inl scr))] := hD
    have hi_12 := fx_in3 hw_12 (A := ((scr sp.toNatClampNeg) - 48).toInt) (B := 0) (C := 9) (Int32.toInt_toInt64 _) (by decide) (by decide)
    refine lv_if_eq (tgt := 57) hx hb dX8_digit_38 (by decide) (fun c_13 => ?_) (fun c_13 => ?_)
    · refine lv_iconst (v := 0) hx hb dX8_digit_57 (by decide) ?_
      refine fc_gov (isC := [0]) (isR := [1]) (wc := [(mo, .inr (8, [.int rf, .ref sc, .int ss, .int sp, .int ig, .int lf, .ref rd, .ref nw, .ref tr, .ref di, .int ac, .ref kp, .ref ik]))]) (wr := [(sc, .inl (tc 0, 120, .inl scr))]) hP hD hS hA rfl rfl (by decide) (by decide) (fc_runV (isC := [0]) (As := [.int 0]) (rest := []) hx hb hml hown hts hK hE hP hD hS hA rfl (by decide) (c_X8_accept l D tc mo sc rd nw tr di kp ik rf ss sp ig lf ac 0 _ ) (cwV 1 hts gX8_digit_X8_accept rfl rfl rfl hd_X8_accept ⟨Nat.le_of_ble_eq_true rfl, Nat.le_of_ble_eq_true rfl⟩) (ci := 8) rfl rfl rfl rfl hl.1 rfl (Nat.le_of_ble_eq_true rfl) dX8_digit_58 ⟨Nat.le_of_ble_eq_true rfl, Nat.le_of_ble_eq_true rfl⟩) (fun u_14 H locs hw_14 hP hD hS => ?_)
      obtain ⟨sp_14, ig_14⟩ := u_14
      try dsimp only at hw_14
      have hP : va_P D vwCl [(sc, .inl (tc 0, 120, .inl scr)), (mo, .inr (8, [.int rf, .ref sc, .int ss, .int sp_14, .int ig_14, .int lf, .ref rd, .ref nw, .ref tr, .ref di, .int ac, .ref kp, .ref ik]))] H := hP
      have hD : va_D A [(sc, .inl (tc 0, 120, .inl scr)), (mo, .inr (8, [.int rf, .ref sc, .int ss, .int sp_14, .int ig_14, .int lf, .ref rd, .ref nw, .ref tr, .ref di, .int ac, .ref kp, .ref ik]))] := hD
      refine lv_aload_n hx hb dX8_digit_61 rfl (lv_at hl 1 rfl) ?_
      refine va_get (D := D) (ci := 8) (v := .int ig_14) (C := RX8) (T := TX8) (N := 13) hx hb hts iX8_digit_X8 hown hK hP 1 rfl rfl 4 (by decide) (hts (.fieldLink RX8 110 "FrameCardModel" "isGood" "Z") (by decide +kernel)) (fun _ h9 => h9) rfl dX8_digit_62 ?_
      refine lv_if_eq (tgt := 72) hx hb dX8_digit_65 (by decide) (fun c_15 => ?_) (fun c_15 => ?_)
      · refine lv_iload_n hx hb dX8_digit_72 rfl (lv_at hl 2 rfl) ?_
        exact hret _ _ (p0) (sp_14, ig_14) _ _ (by rw [mX8_digit]; (try dsimp only); rw [if_neg c_1]; rw [hw_12]; (try dsimp only); rw [if_pos c_13]; rw [hw_14]; (try dsimp only); rw [if_pos c_15]; (first | done | rfl)) (hP.sub [1, 0] rfl) (hD.sub [1, 0] (by decide) rfl) hS dX8_digit_73
      · refine lv_iload_n hx hb dX8_digit_68 rfl (lv_at hl 0 rfl) ?_
        refine lv_goto (tgt := 73) hx hb dX8_digit_69 (by decide) ?_
        exact hret _ _ ((scr sp.toNatClampNeg) - 48) (sp_14, ig_14) _ _ (by rw [mX8_digit]; (try dsimp only); rw [if_neg c_1]; rw [hw_12]; (try dsimp only); rw [if_pos c_13]; rw [hw_14]; (try dsimp only); rw [if_neg c_15]; (first | done | rfl)) (hP.sub [1, 0] rfl) (hD.sub [1, 0] (by decide) rfl) hS dX8_digit_73
    · have hj_12 := hi_12.resolve_left c_13
      refine lv_iload_n hx hb dX8_digit_41 rfl (lv_at hl 0 rfl) ?_
      refine lv_i2l hx hb dX8_digit_42 rfl ?_
      refine lv_iload_n hx hb dX8_digit_43 rfl (lv_at hl 2 rfl) ?_
      refine lv_i2l hx hb dX8_digit_44 rfl ?_
      refine lv_iload_n hx hb dX8_digit_45 rfl (lv_at hl 3 rfl) ?_
      refine lv_i2l hx hb dX8_digit_46 rfl ?_
      refine fc_goi (isC := []) (isR := [0, 1]) (wc := []) (wr := [(mo, .inr (8, [.int rf, .ref sc, .int ss, .int sp, .int ig, .int lf, .ref rd, .ref nw, .ref tr, .ref di, .int ac, .ref kp, .ref ik])), (sc, .inl (tc 0, 120, .inl scr))]) hP hD hS hA rfl rfl (by decide) (by decide) (fc_runS (isC := []) (As := [.long (((scr sp.toNatClampNeg) - 48) : Int32).toInt64, .long p0.toInt64, .long p1.toInt64]) (rest := [.ref mo]) hx hb hml hown hts hK hE hP hD hS hA rfl (by decide) (c_X8_in l D tc ((((scr sp.toNatClampNeg) - 48) : Int32).toInt64) p0.toInt64 p1.toInt64 _ ) (cwS 3 hts gX8_digit_X8_in rfl rfl rfl hd_X8_in ⟨Nat.le_of_ble_eq_true rfl, Nat.le_of_ble_eq_true rfl⟩) rfl hl.1 rfl (Nat.le_of_ble_eq_true rfl) dX8_digit_47 ⟨Nat.le_of_ble_eq_true rfl, Nat.le_of_ble_eq_true rfl⟩) (fun r_16 u_16 H locs hw_16 hP hD hS => ?_)
      try dsimp only at hw_16
      have hP : va_P D vwCl [(mo, .inr (8, [.int rf, .ref sc, .int ss, .int sp, .int ig, .int lf, .ref rd, .ref nw, .ref tr, .ref di, .int ac, .ref kp, .ref ik])), (sc, .inl (tc 0, 120, .inl scr))] H := hP
      have hD : va_D A [(mo, .inr (8, [.int rf, .ref sc, .int ss, .int sp, .int ig, .int lf, .ref rd, .ref nw, .ref tr, .ref di, .int ac, .ref kp, .ref ik])), (sc, .inl (tc 0, 120, .inl scr))] := hD
      have hi_16 := fx_in3 hw_16 (A := ((scr sp.toNatClampNeg) - 48).toInt) (B := p0.toInt) (C := p1.toInt) (Int32.toInt_toInt64 _) (Int32.toInt_toInt64 _) (Int32.toInt_toInt64 _)
      refine lv_if_eq (tgt := 57) hx hb dX8_digit_50 (by decide) (fun c_17 => ?_) (fun c_17 => ?_)
      · refine lv_iconst (v := 0) hx hb dX8_digit_57 (by decide) ?_
        refine fc_gov (isC := [0]) (isR := [1]) (wc := [(mo, .inr (8, [.int rf, .ref sc, .int ss, .int sp, .int ig, .int lf, .ref rd, .ref nw, .ref tr, .ref di, .int ac, .ref kp, .ref ik]))]) (wr := [(sc, .inl (tc 0, 120, .inl scr))]) hP hD hS hA rfl rfl (by decide) (by decide) (fc_runV (isC := [0]) (As := [.int 0]) (rest := []) hx hb hml hown hts hK hE hP hD hS hA rfl (by decide) (c_X8_accept l D tc mo sc rd nw tr di kp ik rf ss sp ig lf ac 0 _ ) (cwV 1 hts gX8_digit_X8_accept rfl rfl rfl hd_X8_accept ⟨Nat.le_of_ble_eq_true rfl, Nat.le_of_ble_eq_true rfl⟩) (ci := 8) rfl rfl rfl rfl hl.1 rfl (Nat.le_of_ble_eq_true rfl) dX8_digit_58 ⟨Nat.le_of_ble_eq_true rfl, Nat.le_of_ble_eq_true rfl⟩) (fun u_18 H locs hw_18 hP hD hS => ?_)
        obtain ⟨sp_18, ig_18⟩ := u_18
        try dsimp only at hw_18
        have hP : va_P D vwCl [(sc, .inl (tc 0, 120, .inl scr)), (mo, .inr (8, [.int rf, .ref sc, .int ss, .int sp_18, .int ig_18, .int lf, .ref rd, .ref nw, .ref tr, .ref di, .int ac, .ref kp, .ref ik]))] H := hP
        have hD : va_D A [(sc, .inl (tc 0, 120, .inl scr)), (mo, .inr (8, [.int rf, .ref sc, .int ss, .int sp_18, .int ig_18, .int lf, .ref rd, .ref nw, .ref tr, .ref di, .int ac, .ref kp, .ref ik]))] := hD
        refine lv_aload_n hx hb dX8_digit_61 rfl (lv_at hl 1 rfl) ?_
        refine va_get (D := D) (ci := 8) (v := .int ig_18) (C := RX8) (T := TX8) (N := 13) hx hb hts iX8_digit_X8 hown hK hP 1 rfl rfl 4 (by decide) (hts (.fieldLink RX8 110 "FrameCardModel" "isGood" "Z") (by decide +kernel)) (fun _ h9 => h9) rfl dX8_digit_62 ?_
        refine lv_if_eq (tgt := 72) hx hb dX8_digit_65 (by decide) (fun c_19 => ?_) (fun c_19 => ?_)
        · refine lv_iload_n hx hb dX8_digit_72 rfl (lv_at hl 2 rfl) ?_
          exact hret _ _ (p0) (sp_18, ig_18) _ _ (by rw [mX8_digit]; (try dsimp only); rw [if_neg c_1]; rw [hw_12]; (try dsimp only); rw [if_neg c_13]; rw [hw_16]; (try dsimp only); rw [if_pos c_17]; rw [hw_18]; (try dsimp only); rw [if_pos c_19]; (first | done | rfl)) (hP.sub [1, 0] rfl) (hD.sub [1, 0] (by decide) rfl) hS dX8_digit_73
        · refine lv_iload_n hx hb dX8_digit_68 rfl (lv_at hl 0 rfl) ?_
          refine lv_goto (tgt := 73) hx hb dX8_digit_69 (by decide) ?_
          exact hret _ _ ((scr sp.toNatClampNeg) - 48) (sp_18, ig_18) _ _ (by rw [mX8_digit]; (try dsimp only); rw [if_neg c_1]; rw [hw_12]; (try dsimp only); rw [if_neg c_13]; rw [hw_16]; (try dsimp only); rw [if_pos c_17]; rw [hw_18]; (try dsimp only); rw [if_neg c_19]; (first | done | rfl)) (hP.sub [1, 0] rfl) (hD.sub [1, 0] (by decide) rfl) hS dX8_digit_73
      · have hj_16 := hi_16.resolve_left c_17
        refine lv_iconst (v := 1) hx hb dX8_digit_53 (by decide) ?_
        refine lv_goto (tgt := 58) hx hb dX8_digit_54 (by decide) ?_
        refine fc_gov (isC := [0]) (isR := [1]) (wc := [(mo, .inr (8, [.int rf, .ref sc, .int ss, .int sp, .int ig, .int lf, .ref rd, .ref nw, .ref tr, .ref di, .int ac, .ref kp, .ref ik]))]) (wr := [(sc, .inl (tc 0, 120, .inl scr))]) hP hD hS hA rfl rfl (by decide) (by decide) (fc_runV (isC := [0]) (As := [.int 1]) (rest := []) hx hb hml hown hts hK hE hP hD hS hA rfl (by decide) (c_X8_accept l D tc mo sc rd nw tr di kp ik rf ss sp ig lf ac 1 _ ) (cwV 1 hts gX8_digit_X8_accept rfl rfl rfl hd_X8_accept ⟨Nat.le_of_ble_eq_true rfl, Nat.le_of_ble_eq_true rfl⟩) (ci := 8) rfl rfl rfl rfl hl.1 rfl (Nat.le_of_ble_eq_true rfl) dX8_digit_58 ⟨Nat.le_of_ble_eq_true rfl, Nat.le_of_ble_eq_true rfl⟩) (fun u_20 H locs hw_20 hP hD hS => ?_)
        obtain ⟨sp_20, ig_20⟩ := u_20
        try dsimp only at hw_20
        have hP : va_P D vwCl [(sc, .inl (tc 0, 120, .inl scr)), (mo, .inr (8, [.int rf, .ref sc, .int ss, .int sp_20, .int ig_20, .int lf, .ref rd, .ref nw, .ref tr, .ref di, .int ac, .ref kp, .ref ik]))] H := hP
        have hD : va_D A [(sc, .inl (tc 0, 120, .inl scr)), (mo, .inr (8, [.int rf, .ref sc, .int ss, .int sp_20, .int ig_20, .int lf, .ref rd, .ref nw, .ref tr, .ref di, .int ac, .ref kp, .ref ik]))] := hD
        refine lv_aload_n hx hb dX8_digit_61 rfl (lv_at hl 1 rfl) ?_
        refine va_get (D := D) (ci := 8) (v := .int ig_20) (C := RX8) (T := TX8) (N := 13) hx hb hts iX8_digit_X8 hown hK hP 1 rfl rfl 4 (by decide) (hts (.fieldLink RX8 110 "FrameCardModel" "isGood" "Z") (by decide +kernel)) (fun _ h9 => h9) rfl dX8_digit_62 ?_
        refine lv_if_eq (tgt := 72) hx hb dX8_digit_65 (by decide) (fun c_21 => ?_) (fun c_21 => ?_)
        · refine lv_iload_n hx hb dX8_digit_72 rfl (lv_at hl 2 rfl) ?_
          exact hret _ _ (p0) (sp_20, ig_20) _ _ (by rw [mX8_digit]; (try dsimp only); rw [if_neg c_1]; rw [hw_12]; (try dsimp only); rw [if_neg c_13]; rw [hw_16]; (try dsimp only); rw [if_neg c_17]; rw [hw_20]; (try dsimp only); rw [if_pos c_21]; (first | done | rfl)) (hP.sub [1, 0] rfl) (hD.sub [1, 0] (by decide) rfl) hS dX8_digit_73
        · refine lv_iload_n hx hb dX8_digit_68 rfl (lv_at hl 0 rfl) ?_
          refine lv_goto (tgt := 73) hx hb dX8_digit_69 (by decide) ?_
          exact hret _ _ ((scr sp.toNatClampNeg) - 48) (sp_20, ig_20) _ _ (by rw [mX8_digit]; (try dsimp only); rw [if_neg c_1]; rw [hw_12]; (try dsimp only); rw [if_neg c_13]; rw [hw_16]; (try dsimp only); rw [if_neg c_17]; rw [hw_20]; (try dsimp only); rw [if_neg c_21]; (first | done | rfl)) (hP.sub [1, 0] rfl) (hD.sub [1, 0] (by decide) rfl) hS dX8_digit_73
theorem fr_digit_eq {rf ss sp ig lf ac : Int32} {scr : Nat → Int32} {lo hi : Int32} : mX8_digit rf ss sp ig lf ac scr lo hi = if ¬ ig = 0 ∧ ¬ ss ≤ sp ∧ (0 ≤ (scr sp.toNatClampNeg - 48).toInt ∧ (scr sp.toNatClampNeg - 48).toInt ≤ 9) ∧ (lo.toInt ≤ (scr sp.toNatClampNeg - 48).toInt ∧ (scr sp.toNatClampNeg - 48).toInt ≤ hi.toInt) then (scr sp.toNatClampNeg - 48, sp + 1, 1) else (lo, sp, 0) := by
  have eB : mX8_accept rf ss sp ig lf ac 0 = (sp, 0) := by rw [fr_accept_eq, if_pos (Or.inr rfl)]
  have e9 : ∀ x : Int32, mX8_in x.toInt64 0 9 = if 0 ≤ x.toInt ∧ x.toInt ≤ 9 then 1 else 0 := fun x => fx_in4 (Int32.toInt_toInt64 _) (show (0 : Int64).toInt = 0 by decide) (show (9 : Int64).toInt = 9 by decide)
  have eL : ∀ x : Int32, mX8_in x.toInt64 lo.toInt64 hi.toInt64 = if lo.toInt ≤ x.toInt ∧ x.toInt ≤ hi.toInt then 1 else 0 := fun x => fx_in4 (Int32.toInt_toInt64 _) (Int32.toInt_toInt64 _) (Int32.toInt_toInt64 _)
  have z01 : ¬ (1 : Int32) = 0 := by decide
  unfold mX8_digit
  dsimp only
  by_cases h1 : ss ≤ sp
  · have em : mX8_in (((-1) : Int32).toInt64) 0 9 = 0 := by
      rw [e9]; exact if_neg (by decide)
    rw [if_pos h1, em, if_pos rfl, eB]
    dsimp only
    rw [if_pos rfl]
    exact (if_neg (fun z => z.2.1 h1)).symm
  · rw [if_neg h1, e9, eL]
    by_cases h2 : 0 ≤ (scr sp.toNatClampNeg - 48).toInt ∧ (scr sp.toNatClampNeg - 48).toInt ≤ 9
    · rw [if_pos h2, if_neg z01]
      by_cases h3 : lo.toInt ≤ (scr sp.toNatClampNeg - 48).toInt ∧ (scr sp.toNatClampNeg - 48).toInt ≤ hi.toInt
      · rw [if_pos h3, if_neg z01]
        by_cases h4 : ig = 0
        · have eG : mX8_accept rf ss sp ig lf ac 1 = (sp, 0) := by rw [fr_accept_eq, if_pos (Or.inl h4)]
          rw [eG]
          dsimp only
          rw [if_pos rfl]
          exact (if_neg (fun z => z.1 h4)).symm
        · have eG : mX8_accept rf ss sp ig lf ac 1 = (sp + 1, 1) := by
            rw [fr_accept_eq]; exact if_neg (fun z => z.elim h4 z01)
          rw [eG]
          dsimp only
          rw [if_neg z01]
          exact (if_pos ⟨h4, h1, h2, h3⟩).symm
      · rw [if_neg h3, if_pos rfl, eB]
        dsimp only
        rw [if_pos rfl]
        exact (if_neg (fun z => h3 z.2.2.2)).symm
    · rw [if_neg h2, if_pos rfl, eB]
      dsimp only
      rw [if_pos rfl]
      exact (if_neg (fun z => h2 z.2.2.1)).symm
theorem fr_digitM {rf ss sp ig lf ac : Int32} {scr : Nat → Int32} {lo hi r sp' ig' : Int32} (h : mX8_digit rf ss sp ig lf ac scr lo hi = (r, sp', ig')) (hs : 0 ≤ sp.toInt ∧ sp.toInt ≤ 20000) : pMove sp ig sp' ig' 1 := by
  rw [fr_digit_eq] at h
  have l0 : (0 : Int32).toInt = 0 := by decide
  have l1 : (1 : Int32).toInt = 1 := by decide
  have e := fr_sp1 hs
  unfold pMove
  split at h
  · next hc =>
    obtain ⟨-, e1, e2⟩ := Prod.mk.inj h |>.imp id Prod.mk.inj
    subst e1 e2
    have : ¬ ig.toInt = 0 := fun z => hc.1 (by rw [fc_eq]; omega)
    omega
  · obtain ⟨-, e1, e2⟩ := Prod.mk.inj h |>.imp id Prod.mk.inj
    subst e1 e2
    omega
theorem fr_digit {rf ss sp ig lf ac : Int32} {scr : Nat → Int32} {lo hi r sp' ig' : Int32} (h : mX8_digit rf ss sp ig lf ac scr lo hi = (r, sp', ig')) (hs : 0 ≤ sp.toInt ∧ sp.toInt ≤ 20000) : sp.toInt ≤ sp'.toInt ∧ sp'.toInt ≤ sp.toInt + 1 := by
  have := fr_digitM h hs
  unfold pMove at this
  omega
theorem fr_digitR {rf ss sp ig lf ac : Int32} {scr : Nat → Int32} {lo hi r sp' ig' : Int32} (h : mX8_digit rf ss sp ig lf ac scr lo hi = (r, sp', ig')) : r = lo ∨ (0 ≤ r.toInt ∧ r.toInt ≤ 9 ∧ lo.toInt ≤ r.toInt ∧ r.toInt ≤ hi.toInt) := by
  rw [fr_digit_eq] at h
  split at h
  · next hc =>
    have e1 := (Prod.mk.inj h).1
    subst e1
    exact Or.inr ⟨hc.2.2.1.1, hc.2.2.1.2, hc.2.2.2.1, hc.2.2.2.2⟩
  · exact Or.inl (Prod.mk.inj h).1.symm
theorem fr_digit19 {rf ss sp ig lf ac : Int32} {scr : Nat → Int32} {r sp' ig' : Int32} (h : mX8_digit rf ss sp ig lf ac scr 1 9 = (r, sp', ig')) : 1 ≤ r.toInt ∧ r.toInt ≤ 9 := by
  have l1 : (1 : Int32).toInt = 1 := by decide
  have l9 : (9 : Int32).toInt = 9 := by decide
  rcases fr_digitR h with e | e
  · subst e; omega
  · omega
theorem fr_digit08 {rf ss sp ig lf ac : Int32} {scr : Nat → Int32} {r sp' ig' : Int32} (h : mX8_digit rf ss sp ig lf ac scr 0 8 = (r, sp', ig')) : 0 ≤ r.toInt ∧ r.toInt ≤ 8 := by
  have l1 : (0 : Int32).toInt = 0 := by decide
  have l9 : (8 : Int32).toInt = 8 := by decide
  rcases fr_digitR h with e | e
  · subst e; omega
  · omega
theorem fr_digit09 {rf ss sp ig lf ac : Int32} {scr : Nat → Int32} {r sp' ig' : Int32} (h : mX8_digit rf ss sp ig lf ac scr 0 9 = (r, sp', ig')) : 0 ≤ r.toInt ∧ r.toInt ≤ 9 := by
  have l1 : (0 : Int32).toInt = 0 := by decide
  have l9 : (9 : Int32).toInt = 9 := by decide
  rcases fr_digitR h with e | e
  · subst e; omega
  · omega
--# X8_two
theorem hd_X8_digit : yX8_digit.cls = RX8 ∧ yX8_digit.cls ≠ "java/lang/invoke/MethodHandle" ∧ yX8_digit.cls ≠ "java/lang/invoke/VarHandle" ∧ (parseMethodDescriptor yX8_digit.desc).map (fun d => d.parameters.length) = some 2 := by decide +kernel
theorem hd_X8_digitn : yX8_digit.cls ≠ "java/lang/invoke/MethodHandle" ∧ yX8_digit.cls ≠ "java/lang/invoke/VarHandle" ∧ (parseMethodDescriptor yX8_digit.desc).map (fun d => d.parameters.length) = some 2 := by decide +kernel
noncomputable def mX8_two (rf : Int32) (ss : Int32) (sp : Int32) (ig : Int32) (lf : Int32) (ac : Int32) (scr : Nat → Int32) (p0 : Int32) (p1 : Int32) : Int32 × Int32 × Int32 :=
  match mX8_digit rf ss sp ig lf ac scr (p0 / 10) (p1 / 10) with
  | (r_1, sp_1, ig_1) =>
    if 0 ≤ (p0 - (10 * r_1)) then
      if (p1 - (10 * r_1)) ≤ 9 then
        match mX8_digit rf ss sp_1 ig_1 lf ac scr (p0 - (10 * r_1)) (p1 - (10 * r_1)) with
        | (r_4, sp_4, ig_4) =>
          (((10 * r_1) + r_4), sp_4, ig_4)
      else
        match mX8_digit rf ss sp_1 ig_1 lf ac scr (p0 - (10 * r_1)) 9 with
        | (r_5, sp_5, ig_5) =>
          (((10 * r_1) + r_5), sp_5, ig_5)
    else
      if (p1 - (10 * r_1)) ≤ 9 then
        match mX8_digit rf ss sp_1 ig_1 lf ac scr 0 (p1 - (10 * r_1)) with
        | (r_7, sp_7, ig_7) =>
          (((10 * r_1) + r_7), sp_7, ig_7)
      else
        match mX8_digit rf ss sp_1 ig_1 lf ac scr 0 9 with
        | (r_8, sp_8, ig_8) =>
          (((10 * r_1) + r_8), sp_8, ig_8)
abbrev rmX8_two : Room := { frames := 2, cells := 0, slots := 0, locals := 48 }
set_option maxHeartbeats 4000000 in
set_option maxRecDepth 100000 in
theorem c_X8_two (l : Launch) (D : va_G) (tc : Nat → ClassId) (mo : Nat) (sc : Nat) (rd : Nat) (nw : Nat) (tr : Nat) (di : Nat) (kp : Nat) (ik : Nat) (rf : Int32) (ss : Int32) (sp : Int32) (ig : Int32) (lf : Int32) (ac : Int32) (scr : Nat → Int32) (p0 : Int32) (p1 : Int32) (sz : Nat) (hsp : 0 ≤ sp.toInt ∧ sp.toInt ≤ 15000) (hss : 0 ≤ ss.toInt ∧ ss.toInt ≤ 120) : Met l yX8_two wsX8_two rmX8_two (va_Pc [.ref mo, .int p0, .int p1] (fcB D tc [(mo, .inr (8, [.int rf, .ref sc, .int ss, .int sp, .int ig, .int lf, .ref rd, .ref nw, .ref tr, .ref di, .int ac, .ref kp, .ref ik])), (sc, .inl (tc 0, 120, .inl scr))] sz)) (va_Qi (fun (r : Int32) (u : Int32 × Int32) => mX8_two rf ss sp ig lf ac scr p0 p1 = (r, u)) (fun u t => fcO D (va_A [(mo, .inr (8, [.int rf, .ref sc, .int ss, .int sp, .int ig, .int lf, .ref rd, .ref nw, .ref tr, .ref di, .int ac, .ref kp, .ref ik])), (sc, .inl (tc 0, 120, .inl scr))] sz) ((fun (u : Int32 × Int32) => [(mo, .inr (8, [.int rf, .ref sc, .int ss, .int (u.1), .int (u.2), .int lf, .ref rd, .ref nw, .ref tr, .ref di, .int ac, .ref kp, .ref ik])), (sc, .inl (tc 0, 120, .inl scr))]) u) t) (va_A [(mo, .inr (8, [.int rf, .ref sc, .int ss, .int sp, .int ig, .int lf, .ref rd, .ref nw, .ref tr, .ref di, .int ac, .ref kp, .ref ik])), (sc, .inl (tc 0, 120, .inl scr))] sz)) 0 0 (va_A [(mo, .inr (8, [.int rf, .ref sc, .int ss, .int sp, .int ig, .int lf, .ref rd, .ref nw, .ref tr, .ref di, .int ac, .ref kp, .ref ik])), (sc, .inl (tc 0, 120, .inl scr))] sz) := by
  refine fc_ofWi (own := RX8) (cc := cX8_two) (maxL := 6) (W1 := (fun (u : Int32 × Int32) => [(mo, .inr (8, [.int rf, .ref sc, .int ss, .int (u.1), .int (u.2), .int lf, .ref rd, .ref nw, .ref tr, .ref di, .int ac, .ref kp, .ref ik])), (sc, .inl (tc 0, 120, .inl scr))])) rfl (by decide) rfl (Nat.le_of_ble_eq_true rfl) ?_
  intro p e s m args below meth c A Q hx hb hml hown hts hK hE hP hD hS hA hin hret ls hl
  have hl : lv_has ls 6 [(0, .ref mo), (1, .int p0), (2, .int p1)] := hl
  refine lv_aload_n hx hb dX8_two_0 rfl (lv_at hl 0 rfl) ?_
  refine lv_iload_n hx hb dX8_two_1 rfl (lv_at hl 1 rfl) ?_
  refine lv_bipush (v := 10) hx hb dX8_two_2 (by decide) ?_
  refine lv_idiv hx hb dX8_two_4 (by decide) ?_
  refine lv_iload_n hx hb dX8_two_5 rfl (lv_at hl 2 rfl) ?_
  refine lv_bipush (v := 10) hx hb dX8_two_6 (by decide) ?_
  refine lv_idiv hx hb dX8_two_8 (by decide) ?_
  refine fc_goi (isC := [0, 1]) (isR := []) (wc := [(mo, .inr (8, [.int rf, .ref sc, .int ss, .int sp, .int ig, .int lf, .ref rd, .ref nw, .ref tr, .ref di, .int ac, .ref kp, .ref ik])), (sc, .inl (tc 0, 120, .inl scr))]) (wr := []) hP hD hS hA rfl rfl (by decide) (by decide) (fc_runV (isC := [0, 1]) (As := [.int (p0 / 10), .int (p1 / 10)]) (rest := []) hx hb hml hown hts hK hE hP hD hS hA rfl (by decide) (c_X8_digit l D tc mo sc rd nw tr di kp ik rf ss sp ig lf ac scr (p0 / 10) (p1 / 10) _ ⟨by omega, by omega⟩ hss) (cwV 2 hts gX8_two_X8_digit rfl rfl rfl hd_X8_digit ⟨Nat.le_of_ble_eq_true rfl, Nat.le_of_ble_eq_true rfl⟩) (ci := 8) rfl rfl rfl rfl hl.1 rfl (Nat.le_of_ble_eq_true rfl) dX8_two_9 ⟨Nat.le_of_ble_eq_true rfl, Nat.le_of_ble_eq_true rfl⟩) (fun r_1 u_1 H locs hw_1 hP hD hS => ?_)
  obtain ⟨sp_1, ig_1⟩ := u_1
  try dsimp only at hw_1
  have hP : va_P D vwCl [(mo, .inr (8, [.int rf, .ref sc, .int ss, .int sp_1, .int ig_1, .int lf, .ref rd, .ref nw, .ref tr, .ref di, .int ac, .ref kp, .ref ik])), (sc, .inl (tc 0, 120, .inl scr))] H := hP
  have hD : va_D A [(mo, .inr (8, [.int rf, .ref sc, .int ss, .int sp_1, .int ig_1, .int lf, .ref rd, .ref nw, .ref tr, .ref di, .int ac, .ref kp, .ref ik])), (sc, .inl (tc 0, 120, .inl scr))] := hD
  have hf_1 := fr_digit hw_1 (by omega)
  refine lv_istore_n (lv' := [(3, .int r_1), (0, .ref mo), (1, .int p0), (2, .int p1)]) hx hb dX8_two_12 rfl hl (by decide) rfl (fun ls hl => ?_)
  refine lv_iload_n hx hb dX8_two_13 rfl (lv_at hl 2 rfl) ?_
  refine lv_bipush (v := 10) hx hb dX8_two_14 (by decide) ?_
  refine lv_iload_n hx hb dX8_two_16 rfl (lv_at hl 0 rfl) ?_
  refine lv_imul hx hb dX8_two_17 ?_
  refine lv_isub hx hb dX8_two_18 ?_
  refine lv_istore (lv' := [(4, .int (p0 - (10 * r_1))), (3, .int r_1), (0, .ref mo), (1, .int p0), (2, .int p1)]) hx hb dX8_two_19 hl (by decide) rfl (fun ls hl => ?_)
  refine lv_iload_n hx hb dX8_two_21 rfl (lv_at hl 4 rfl) ?_
  refine lv_bipush (v := 10) hx hb dX8_two_22 (by decide) ?_
  refine lv_iload_n hx hb dX8_two_24 rfl (lv_at hl 1 rfl) ?_
  refine lv_imul hx hb dX8_two_25 ?_
  refine lv_isub hx hb dX8_two_26 ?_
  refine lv_istore (lv' := [(5, .int (p1 - (10 * r_1))), (4, .int (p0 - (10 * r_1))), (3, .int r_1), (0, .ref mo), (1, .int p0), (2, .int p1)]) hx hb dX8_two_27 hl (by decide) rfl (fun ls hl => ?_)
  refine lv_bipush (v := 10) hx hb dX8_two_29 (by decide) ?_
  refine lv_iload_n hx hb dX8_two_31 rfl (lv_at hl 2 rfl) ?_
  refine lv_imul hx hb dX8_two_32 ?_
  refine lv_aload_n hx hb dX8_two_33 rfl (lv_at hl 3 rfl) ?_
  refine lv_iload hx hb dX8_two_34 (lv_at hl 1 rfl) ?_
  refine lv_if_ge (tgt := 43) hx hb dX8_two_36 (by decide) (fun c_2 => ?_) (fun c_2 => ?_)
  · refine lv_iload hx hb dX8_two_43 (lv_at hl 1 rfl) ?_
    refine lv_iload hx hb dX8_two_45 (lv_at hl 0 rfl) ?_
    refine lv_bipush (v := 9) hx hb dX8_two_47 (by decide) ?_
    refine lv_icmp_le (tgt := 57) hx hb dX8_two_49 (by decide) (fun c_3 => ?_) (fun c_3 => ?_)
    · refine lv_iload hx hb dX8_two_57 (lv_at hl 0 rfl) ?_
      refine fc_goi (isC := [0, 1]) (isR := []) (wc := [(mo, .inr (8, [.int rf, .ref sc, .int ss, .int sp_1, .int ig_1, .int lf, .ref rd, .ref nw, .ref tr, .ref di, .int ac, .ref kp, .ref ik])), (sc, .inl (tc 0, 120, .inl scr))]) (wr := []) hP hD hS hA rfl rfl (by decide) (by decide) (fc_runV (isC := [0, 1]) (As := [.int (p0 - (10 * r_1)), .int (p1 - (10 * r_1))]) (rest := [.int (10 * r_1)]) hx hb hml hown hts hK hE hP hD hS hA rfl (by decide) (c_X8_digit l D tc mo sc rd nw tr di kp ik rf ss sp_1 ig_1 lf ac scr (p0 - (10 * r_1)) (p1 - (10 * r_1)) _ ⟨by omega, by omega⟩ hss) (cwV 2 hts gX8_two_X8_digit rfl rfl rfl hd_X8_digit ⟨Nat.le_of_ble_eq_true rfl, Nat.le_of_ble_eq_true rfl⟩) (ci := 8) rfl rfl rfl rfl hl.1 rfl (Nat.le_of_ble_eq_true rfl) dX8_two_59 ⟨Nat.le_of_ble_eq_true rfl, Nat.le_of_ble_eq_true rfl⟩) (fun r_4 u_4 H locs hw_4 hP hD hS => ?_)
      obtain ⟨sp_4, ig_4⟩ := u_4
      try dsimp only at hw_4
      have hP : va_P D vwCl [(mo, .inr (8, [.int rf, .ref sc, .int ss, .int sp_4, .int ig_4, .int lf, .ref rd, .ref nw, .ref tr, .ref di, .int ac, .ref kp, .ref ik])), (sc, .inl (tc 0, 120, .inl scr))] H := hP
      have hD : va_D A [(mo, .inr (8, [.int rf, .ref sc, .int ss, .int sp_4, .int ig_4, .int lf, .ref rd, .ref nw, .ref tr, .ref di, .int ac, .ref kp, .ref ik])), (sc, .inl (tc 0, 120, .inl scr))] := hD
      have hf_4 := fr_digit hw_4 (by omega)
      refine lv_iadd hx hb dX8_two_62 ?_
      exact hret _ _ ((10 * r_1) + r_4) (sp_4, ig_4) _ _ (by rw [mX8_two]; (try dsimp only); rw [hw_1]; (try dsimp only); rw [if_pos c_2]; rw [if_pos c_3]; rw [hw_4]; (try dsimp only); (first | done | rfl)) (hP.sub [0, 1] rfl) (hD.sub [0, 1] (by decide) rfl) hS dX8_two_63
    · refine lv_bipush (v := 9) hx hb dX8_two_52 (by decide) ?_
      refine lv_goto (tgt := 59) hx hb dX8_two_54 (by decide) ?_
      refine fc_goi (isC := [0, 1]) (isR := []) (wc := [(mo, .inr (8, [.int rf, .ref sc, .int ss, .int sp_1, .int ig_1, .int lf, .ref rd, .ref nw, .ref tr, .ref di, .int ac, .ref kp, .ref ik])), (sc, .inl (tc 0, 120, .inl scr))]) (wr := []) hP hD hS hA rfl rfl (by decide) (by decide) (fc_runV (isC := [0, 1]) (As := [.int (p0 - (10 * r_1)), .int 9]) (rest := [.int (10 * r_1)]) hx hb hml hown hts hK hE hP hD hS hA rfl (by decide) (c_X8_digit l D tc mo sc rd nw tr di kp ik rf ss sp_1 ig_1 lf ac scr (p0 - (10 * r_1)) 9 _ ⟨by omega, by omega⟩ hss) (cwV 2 hts gX8_two_X8_digit rfl rfl rfl hd_X8_digit ⟨Nat.le_of_ble_eq_true rfl, Nat.le_of_ble_eq_true rfl⟩) (ci := 8) rfl rfl rfl rfl hl.1 rfl (Nat.le_of_ble_eq_true rfl) dX8_two_59 ⟨Nat.le_of_ble_eq_true rfl, Nat.le_of_ble_eq_true rfl⟩) (fun r_5 u_5 H locs hw_5 hP hD hS => ?_)
      obtain ⟨sp_5, ig_5⟩ := u_5
      try dsimp only at hw_5
      have hP : va_P D vwCl [(mo, .inr (8, [.int rf, .ref sc, .int ss, .int sp_5, .int ig_5, .int lf, .ref rd, .ref nw, .ref tr, .ref di, .int ac, .ref kp, .ref ik])), (sc, .inl (tc 0, 120, .inl scr))] H := hP
      have hD : va_D A [(mo, .inr (8, [.int rf, .ref sc, .int ss, .int sp_5, .int ig_5, .int lf, .ref rd, .ref nw, .ref tr, .ref di, .int ac, .ref kp, .ref ik])), (sc, .inl (tc 0, 120, .inl scr))] := hD
      have hf_5 := fr_digit hw_5 (by omega)
      refine lv_iadd hx hb dX8_two_62 ?_
      exact hret _ _ ((10 * r_1) + r_5) (sp_5, ig_5) _ _ (by rw [mX8_two]; (try dsimp only); rw [hw_1]; (try dsimp only); rw [if_pos c_2]; rw [if_neg c_3]; rw [hw_5]; (try dsimp only); (first | done | rfl)) (hP.sub [0, 1] rfl) (hD.sub [0, 1] (by decide) rfl) hS dX8_two_63
  · refine lv_iconst (v := 0) hx hb dX8_two_39 (by decide) ?_
    refine lv_goto (tgt := 45) hx hb dX8_two_40 (by decide) ?_
    refine lv_iload hx hb dX8_two_45 (lv_at hl 0 rfl) ?_
    refine lv_bipush (v := 9) hx hb dX8_two_47 (by decide) ?_
    refine lv_icmp_le (tgt := 57) hx hb dX8_two_49 (by decide) (fun c_6 => ?_) (fun c_6 => ?_)
    · refine lv_iload hx hb dX8_two_57 (lv_at hl 0 rfl) ?_
      refine fc_goi (isC := [0, 1]) (isR := []) (wc := [(mo, .inr (8, [.int rf, .ref sc, .int ss, .int sp_1, .int ig_1, .int lf, .ref rd, .ref nw, .ref tr, .ref di, .int ac, .ref kp, .ref ik])), (sc, .inl (tc 0, 120, .inl scr))]) (wr := []) hP hD hS hA rfl rfl (by decide) (by decide) (fc_runV (isC := [0, 1]) (As := [.int 0, .int (p1 - (10 * r_1))]) (rest := [.int (10 * r_1)]) hx hb hml hown hts hK hE hP hD hS hA rfl (by decide) (c_X8_digit l D tc mo sc rd nw tr di kp ik rf ss sp_1 ig_1 lf ac scr 0 (p1 - (10 * r_1)) _ ⟨by omega, by omega⟩ hss) (cwV 2 hts gX8_two_X8_digit rfl rfl rfl hd_X8_digit ⟨Nat.le_of_ble_eq_true rfl, Nat.le_of_ble_eq_true rfl⟩) (ci := 8) rfl rfl rfl rfl hl.1 rfl (Nat.le_of_ble_eq_true rfl) dX8_two_59 ⟨Nat.le_of_ble_eq_true rfl, Nat.le_of_ble_eq_true rfl⟩) (fun r_7 u_7 H locs hw_7 hP hD hS => ?_)
      obtain ⟨sp_7, ig_7⟩ := u_7
      try dsimp only at hw_7
      have hP : va_P D vwCl [(mo, .inr (8, [.int rf, .ref sc, .int ss, .int sp_7, .int ig_7, .int lf, .ref rd, .ref nw, .ref tr, .ref di, .int ac, .ref kp, .ref ik])), (sc, .inl (tc 0, 120, .inl scr))] H := hP
      have hD : va_D A [(mo, .inr (8, [.int rf, .ref sc, .int ss, .int sp_7, .int ig_7, .int lf, .ref rd, .ref nw, .ref tr, .ref di, .int ac, .ref kp, .ref ik])), (sc, .inl (tc 0, 120, .inl scr))] := hD
      have hf_7 := fr_digit hw_7 (by omega)
      refine lv_iadd hx hb dX8_two_62 ?_
      exact hret _ _ ((10 * r_1) + r_7) (sp_7, ig_7) _ _ (by rw [mX8_two]; (try dsimp only); rw [hw_1]; (try dsimp only); rw [if_neg c_2]; rw [if_pos c_6]; rw [hw_7]; (try dsimp only); (first | done | rfl)) (hP.sub [0, 1] rfl) (hD.sub [0, 1] (by decide) rfl) hS dX8_two_63
    · refine lv_bipush (v := 9) hx hb dX8_two_52 (by decide) ?_
      refine lv_goto (tgt := 59) hx hb dX8_two_54 (by decide) ?_
      refine fc_goi (isC := [0, 1]) (isR := []) (wc := [(mo, .inr (8, [.int rf, .ref sc, .int ss, .int sp_1, .int ig_1, .int lf, .ref rd, .ref nw, .ref tr, .ref di, .int ac, .ref kp, .ref ik])), (sc, .inl (tc 0, 120, .inl scr))]) (wr := []) hP hD hS hA rfl rfl (by decide) (by decide) (fc_runV (isC := [0, 1]) (As := [.int 0, .int 9]) (rest := [.int (10 * r_1)]) hx hb hml hown hts hK hE hP hD hS hA rfl (by decide) (c_X8_digit l D tc mo sc rd nw tr di kp ik rf ss sp_1 ig_1 lf ac scr 0 9 _ ⟨by omega, by omega⟩ hss) (cwV 2 hts gX8_two_X8_digit rfl rfl rfl hd_X8_digit ⟨Nat.le_of_ble_eq_true rfl, Nat.le_of_ble_eq_true rfl⟩) (ci := 8) rfl rfl rfl rfl hl.1 rfl (Nat.le_of_ble_eq_true rfl) dX8_two_59 ⟨Nat.le_of_ble_eq_true rfl, Nat.le_of_ble_eq_true rfl⟩) (fun r_8 u_8 H locs hw_8 hP hD hS => ?_)
      obtain ⟨sp_8, ig_8⟩ := u_8
      try dsimp only at hw_8
      have hP : va_P D vwCl [(mo, .inr (8, [.int rf, .ref sc, .int ss, .int sp_8, .int ig_8, .int lf, .ref rd, .ref nw, .ref tr, .ref di, .int ac, .ref kp, .ref ik])), (sc, .inl (tc 0, 120, .inl scr))] H := hP
      have hD : va_D A [(mo, .inr (8, [.int rf, .ref sc, .int ss, .int sp_8, .int ig_8, .int lf, .ref rd, .ref nw, .ref tr, .ref di, .int ac, .ref kp, .ref ik])), (sc, .inl (tc 0, 120, .inl scr))] := hD
      have hf_8 := fr_digit hw_8 (by omega)
      refine lv_iadd hx hb dX8_two_62 ?_
      exact hret _ _ ((10 * r_1) + r_8) (sp_8, ig_8) _ _ (by rw [mX8_two]; (try dsimp only); rw [hw_1]; (try dsimp only); rw [if_neg c_2]; rw [if_neg c_6]; rw [hw_8]; (try dsimp only); (first | done | rfl)) (hP.sub [0, 1] rfl) (hD.sub [0, 1] (by decide) rfl) hS dX8_two_63
/-- the second digit's range -/
noncomputable def pFrom (lo t : Int32) : Int32 := if 0 ≤ lo - 10 * t then lo - 10 * t else 0
noncomputable def pTo (hi t : Int32) : Int32 := if hi - 10 * t ≤ 9 then hi - 10 * t else 9
theorem fr_two_eq {rf ss sp ig lf ac : Int32} {scr : Nat → Int32} {lo hi t sp1 ig1 r sp2 ig2 : Int32} (h1 : mX8_digit rf ss sp ig lf ac scr (lo / 10) (hi / 10) = (t, sp1, ig1)) (h2 : mX8_digit rf ss sp1 ig1 lf ac scr (pFrom lo t) (pTo hi t) = (r, sp2, ig2)) : mX8_two rf ss sp ig lf ac scr lo hi = (10 * t + r, sp2, ig2) := by
  unfold mX8_two
  rw [h1]
  dsimp only
  unfold pFrom pTo at h2
  by_cases c1 : 0 ≤ lo - 10 * t
  · rw [if_pos c1] at h2 ⊢
    by_cases c2 : hi - 10 * t ≤ 9
    · rw [if_pos c2] at h2 ⊢; rw [h2]
    · rw [if_neg c2] at h2 ⊢; rw [h2]
  · rw [if_neg c1] at h2 ⊢
    by_cases c2 : hi - 10 * t ≤ 9
    · rw [if_pos c2] at h2 ⊢; rw [h2]
    · rw [if_neg c2] at h2 ⊢; rw [h2]
/-- a number of two digits out of its two digits -/
theorem fr_two_ex {rf ss sp ig lf ac : Int32} {scr : Nat → Int32} {lo hi v sp2 ig2 : Int32} (h : mX8_two rf ss sp ig lf ac scr lo hi = (v, sp2, ig2)) : ∃ t sp1 ig1 r, mX8_digit rf ss sp ig lf ac scr (lo / 10) (hi / 10) = (t, sp1, ig1) ∧ mX8_digit rf ss sp1 ig1 lf ac scr (pFrom lo t) (pTo hi t) = (r, sp2, ig2) ∧ v = 10 * t + r := by
  obtain ⟨⟨t, sp1, ig1⟩, e1⟩ : ∃ y, y = mX8_digit rf ss sp ig lf ac scr (lo / 10) (hi / 10) := ⟨_, rfl⟩
  obtain ⟨⟨r, sp3, ig3⟩, e2⟩ : ∃ y, y = mX8_digit rf ss sp1 ig1 lf ac scr (pFrom lo t) (pTo hi t) := ⟨_, rfl⟩
  have e3 := fr_two_eq e1.symm e2.symm
  rw [h] at e3
  obtain ⟨q1, q2⟩ := Prod.mk.inj e3
  obtain ⟨q3, q4⟩ := Prod.mk.inj q2
  subst q3 q4
  exact ⟨t, sp1, ig1, r, e1.symm, e2.symm, q1⟩
theorem fr_twoM {rf ss sp ig lf ac : Int32} {scr : Nat → Int32} {lo hi r sp' ig' : Int32} (h : mX8_two rf ss sp ig lf ac scr lo hi = (r, sp', ig')) (hs : 0 ≤ sp.toInt ∧ sp.toInt ≤ 15000) : pMove sp ig sp' ig' 2 := by
  obtain ⟨t, sp1, ig1, r, h1, h2, -⟩ := fr_two_ex h
  have m1 := fr_digitM h1 (by omega)
  have m2 := fr_digitM h2 (by unfold pMove at m1; omega)
  exact m1.trans m2
theorem fr_two {rf ss sp ig lf ac : Int32} {scr : Nat → Int32} {lo hi r sp' ig' : Int32} (h : mX8_two rf ss sp ig lf ac scr lo hi = (r, sp', ig')) (hs : 0 ≤ sp.toInt ∧ sp.toInt ≤ 15000) : sp.toInt ≤ sp'.toInt ∧ sp'.toInt ≤ sp.toInt + 2 := by
  have := fr_twoM h hs
  unfold pMove at this
  omega
theorem fr_two047 {rf ss sp ig lf ac : Int32} {scr : Nat → Int32} {r sp' ig' : Int32} (h : mX8_two rf ss sp ig lf ac scr 0 47 = (r, sp', ig')) (hs : 0 ≤ sp.toInt ∧ sp.toInt ≤ 15000) : (sp.toInt ≤ sp'.toInt ∧ sp'.toInt ≤ sp.toInt + 2) ∧ 0 ≤ r.toInt ∧ r.toInt ≤ 99 := by
  refine ⟨fr_two h hs, ?_⟩
  obtain ⟨t, sp1, ig1, d, h1, h2, rfl⟩ := fr_two_ex h
  have l0 : (0 : Int32).toInt = 0 := by decide
  have l9 : (9 : Int32).toInt = 9 := by decide
  have l1 : ((0 : Int32) / 10).toInt = 0 := by decide
  have l2 : ((47 : Int32) / 10).toInt = 4 := by decide
  have hr1 := fr_digitR h1
  have ht : 0 ≤ t.toInt ∧ t.toInt ≤ 4 := by
    rcases hr1 with e | e
    · subst e; omega
    · omega
  have a1 := fc_kmul (x := t) (k := 10) (n := 10) (by decide) (by omega) (by omega)
  have a2 := fc_ksub (x := 10 * t) (k := 0) (n := 0) (by decide) (by omega) (by omega)
  have hf : 0 ≤ (pFrom 0 t).toInt ∧ (pFrom 0 t).toInt ≤ 9 := by
    unfold pFrom
    split
    · next c => rw [fc_le] at c; omega
    · decide
  have hd : 0 ≤ d.toInt ∧ d.toInt ≤ 9 := by
    rcases fr_digitR h2 with e | e
    · subst e; omega
    · omega
  have a3 := fc_add (x := 10 * t) (y := d) (by omega) (by omega)
  omega
theorem fr_two848 {rf ss sp ig lf ac : Int32} {scr : Nat → Int32} {r sp' ig' : Int32} (h : mX8_two rf ss sp ig lf ac scr 8 48 = (r, sp', ig')) : 8 ≤ r.toInt ∧ r.toInt ≤ 48 := by
  obtain ⟨t, sp1, ig1, d, h1, h2, rfl⟩ := fr_two_ex h
  have l0 : (0 : Int32).toInt = 0 := by decide
  have l9 : (9 : Int32).toInt = 9 := by decide
  have l8 : (8 : Int32).toInt = 8 := by decide
  have l48 : (48 : Int32).toInt = 48 := by decide
  have l1 : ((8 : Int32) / 10).toInt = 0 := by decide
  have l2 : ((48 : Int32) / 10).toInt = 4 := by decide
  have ht : 0 ≤ t.toInt ∧ t.toInt ≤ 4 := by
    rcases fr_digitR h1 with e | e
    · subst e; omega
    · omega
  have a1 := fc_kmul (x := t) (k := 10) (n := 10) (by decide) (by omega) (by omega)
  have a2 := fc_ksub (x := 10 * t) (k := 8) (n := 8) (by decide) (by omega) (by omega)
  have a4 := fc_ksub (x := 10 * t) (k := 48) (n := 48) (by decide) (by omega) (by omega)
  have hf : (t.toInt = 0 → (pFrom 8 t).toInt = 8) ∧ (1 ≤ t.toInt → (pFrom 8 t).toInt = 0) := by
    unfold pFrom
    split
    · next c => rw [fc_le] at c; omega
    · next c => rw [fc_le] at c; omega
  have hg : (t.toInt = 4 → (pTo 48 t).toInt = 8) := by
    unfold pTo
    split
    · next c => rw [fc_le] at c; omega
    · next c => rw [fc_le] at c; omega
  have hd : 0 ≤ d.toInt ∧ d.toInt ≤ 9 ∧ (pFrom 8 t).toInt ≤ d.toInt ∧ (t.toInt = 4 → d.toInt ≤ 8) := by
    rcases fr_digitR h2 with e | e
    · subst e; omega
    · omega
  have a3 := fc_add (x := 10 * t) (y := d) (by omega) (by omega)
  omega
--# X8_readPicture
noncomputable def mX8_readPicture_C16 (sp_13 : Int32) (ig_13 : Int32) (z_16 : Int32 × (Nat → Int32)) : Int32 × Int32 × (Nat → Int32) :=
  (sp_13, ig_13, (z_16.2))
noncomputable def mX8_readPicture_C13 (rrow : Nat → Int32) (r_3 : Int32) (r_5 : Int32) (r_7 : Int32) (r_9 : Int32) (r_11 : Int32) (z_13 : Int32 × Int32 × Int32) : Int32 × Int32 × (Nat → Int32) :=
  if (z_13.2.2) = 0 then
    ((z_13.2.1), (z_13.2.2), rrow)
  else
    mX8_readPicture_C16 (z_13.2.1) (z_13.2.2) (mX8_shootIn rrow ((10 * ((10 * ((10 * ((10 * ((10 * ((10 * 0) + r_3)) + r_5)) + r_7)) + r_9)) + r_11)) + (z_13.1)))
noncomputable def mX8_readPicture_C11 (rf : Int32) (ss : Int32) (lf : Int32) (ac : Int32) (scr : Nat → Int32) (rrow : Nat → Int32) (r_3 : Int32) (r_5 : Int32) (r_7 : Int32) (r_9 : Int32) (z_11 : Int32 × Int32 × Int32) : Int32 × Int32 × (Nat → Int32) :=
  mX8_readPicture_C13 rrow r_3 r_5 r_7 r_9 (z_11.1) (mX8_digit rf ss (z_11.2.1) (z_11.2.2) lf ac scr 0 9)
noncomputable def mX8_readPicture_C9 (rf : Int32) (ss : Int32) (lf : Int32) (ac : Int32) (scr : Nat → Int32) (rrow : Nat → Int32) (r_3 : Int32) (r_5 : Int32) (r_7 : Int32) (z_9 : Int32 × Int32 × Int32) : Int32 × Int32 × (Nat → Int32) :=
  mX8_readPicture_C11 rf ss lf ac scr rrow r_3 r_5 r_7 (z_9.1) (mX8_digit rf ss (z_9.2.1) (z_9.2.2) lf ac scr 0 9)
noncomputable def mX8_readPicture_C7 (rf : Int32) (ss : Int32) (lf : Int32) (ac : Int32) (scr : Nat → Int32) (rrow : Nat → Int32) (r_3 : Int32) (r_5 : Int32) (z_7 : Int32 × Int32 × Int32) : Int32 × Int32 × (Nat → Int32) :=
  mX8_readPicture_C9 rf ss lf ac scr rrow r_3 r_5 (z_7.1) (mX8_digit rf ss (z_7.2.1) (z_7.2.2) lf ac scr 0 9)
noncomputable def mX8_readPicture_C5 (rf : Int32) (ss : Int32) (lf : Int32) (ac : Int32) (scr : Nat → Int32) (rrow : Nat → Int32) (r_3 : Int32) (z_5 : Int32 × Int32 × Int32) : Int32 × Int32 × (Nat → Int32) :=
  mX8_readPicture_C7 rf ss lf ac scr rrow r_3 (z_5.1) (mX8_digit rf ss (z_5.2.1) (z_5.2.2) lf ac scr 0 9)
noncomputable def mX8_readPicture_C3 (rf : Int32) (ss : Int32) (lf : Int32) (ac : Int32) (scr : Nat → Int32) (rrow : Nat → Int32) (z_3 : Int32 × Int32 × Int32) : Int32 × Int32 × (Nat → Int32) :=
  mX8_readPicture_C5 rf ss lf ac scr rrow (z_3.1) (mX8_digit rf ss (z_3.2.1) (z_3.2.2) lf ac scr 0 9)
noncomputable def mX8_readPicture_C1 (rf : Int32) (ss : Int32) (lf : Int32) (ac : Int32) (scr : Nat → Int32) (rrow : Nat → Int32) (z_1 : Int32 × Int32) : Int32 × Int32 × (Nat → Int32) :=
  mX8_readPicture_C3 rf ss lf ac scr rrow (mX8_digit rf ss (z_1.1) (z_1.2) lf ac scr 0 9)
noncomputable def mX8_readPicture (rf : Int32) (ss : Int32) (sp : Int32) (ig : Int32) (lf : Int32) (ac : Int32) (scr : Nat → Int32) (rrow : Nat → Int32) : Int32 × Int32 × (Nat → Int32) :=
  mX8_readPicture_C1 rf ss lf ac scr rrow (mX8_accept rf ss sp ig lf ac 1)
set_option maxRecDepth 20000 in
theorem iX8_readPicture_X8 : ∀ w ∈ wsX80, w ∈ wsX8_readPicture := by decide +kernel
abbrev rmX8_readPicture : Room := { frames := 2, cells := 0, slots := 0, locals := 50 }
set_option maxHeartbeats 4000000 in
set_option maxRecDepth 100000 in
theorem c_X8_readPicture (l : Launch) (D : va_G) (tc : Nat → ClassId) (mo : Nat) (sc : Nat) (rd : Nat) (nw : Nat) (tr : Nat) (di : Nat) (kp : Nat) (ik : Nat) (rf : Int32) (ss : Int32) (sp : Int32) (ig : Int32) (lf : Int32) (ac : Int32) (scr : Nat → Int32) (rrow : Nat → Int32) (sz : Nat) (hsp : 0 ≤ sp.toInt ∧ sp.toInt ≤ 10000) (hss : 0 ≤ ss.toInt ∧ ss.toInt ≤ 120) (hR : RXn 1 rrow) : Met l yX8_readPicture wsX8_readPicture rmX8_readPicture (va_Pc [.ref mo] (fcB D tc [(mo, .inr (8, [.int rf, .ref sc, .int ss, .int sp, .int ig, .int lf, .ref rd, .ref nw, .ref tr, .ref di, .int ac, .ref kp, .ref ik])), (sc, .inl (tc 0, 120, .inl scr)), (rd, .inl (tc 0, 357, .inl rrow))] sz)) (va_Qv (fun (u : Int32 × Int32 × (Nat → Int32)) => mX8_readPicture rf ss sp ig lf ac scr rrow = u) (fun u t => fcO D (va_A [(mo, .inr (8, [.int rf, .ref sc, .int ss, .int sp, .int ig, .int lf, .ref rd, .ref nw, .ref tr, .ref di, .int ac, .ref kp, .ref ik])), (sc, .inl (tc 0, 120, .inl scr)), (rd, .inl (tc 0, 357, .inl rrow))] sz) ((fun (u : Int32 × Int32 × (Nat → Int32)) => [(mo, .inr (8, [.int rf, .ref sc, .int ss, .int (u.1), .int (u.2.1), .int lf, .ref rd, .ref nw, .ref tr, .ref di, .int ac, .ref kp, .ref ik])), (sc, .inl (tc 0, 120, .inl scr)), (rd, .inl (tc 0, 357, .inl (u.2.2)))]) u) t) (va_A [(mo, .inr (8, [.int rf, .ref sc, .int ss, .int sp, .int ig, .int lf, .ref rd, .ref nw, .ref tr, .ref di, .int ac, .ref kp, .ref ik])), (sc, .inl (tc 0, 120, .inl scr)), (rd, .inl (tc 0, 357, .inl rrow))] sz)) 0 0 (va_A [(mo, .inr (8, [.int rf, .ref sc, .int ss, .int sp, .int ig, .int lf, .ref rd, .ref nw, .ref tr, .ref di, .int ac, .ref kp, .ref ik])), (sc, .inl (tc 0, 120, .inl scr)), (rd, .inl (tc 0, 357, .inl rrow))] sz) := by
  refine fc_ofWv (own := RX8) (cc := cX8_readPicture) (maxL := 3) (W1 := (fun (u : Int32 × Int32 × (Nat → Int32)) => [(mo, .inr (8, [.int rf, .ref sc, .int ss, .int (u.1), .int (u.2.1), .int lf, .ref rd, .ref nw, .ref tr, .ref di, .int ac, .ref kp, .ref ik])), (sc, .inl (tc 0, 120, .inl scr)), (rd, .inl (tc 0, 357, .inl (u.2.2)))])) rfl (by decide) rfl (Nat.le_of_ble_eq_true rfl) ?_
  intro p e s m args below meth c A Q hx hb hml hown hts hK hE hP hD hS hA hin hret ls hl
  have hl : lv_has ls 3 [(0, .ref mo)] := hl
  refine lv_aload_n hx hb dX8_readPicture_0 rfl (lv_at hl 0 rfl) ?_
  refine lv_iconst (v := 1) hx hb dX8_readPicture_1 (by decide) ?_
  refine fc_gov (isC := [0]) (isR := [1, 2]) (wc := [(mo, .inr (8, [.int rf, .ref sc, .int ss, .int sp, .int ig, .int lf, .ref rd, .ref nw, .ref tr, .ref di, .int ac, .ref kp, .ref ik]))]) (wr := [(sc, .inl (tc 0, 120, .inl scr)), (rd, .inl (tc 0, 357, .inl rrow))]) hP hD hS hA rfl rfl (by decide) (by decide) (fc_runV (isC := [0]) (As := [.int 1]) (rest := []) hx hb hml hown hts hK hE hP hD hS hA rfl (by decide) (c_X8_accept l D tc mo sc rd nw tr di kp ik rf ss sp ig lf ac 1 _ ) (cwV 1 hts gX8_readPicture_X8_accept rfl rfl rfl hd_X8_accept ⟨Nat.le_of_ble_eq_true rfl, Nat.le_of_ble_eq_true rfl⟩) (ci := 8) rfl rfl rfl rfl hl.1 rfl (Nat.le_of_ble_eq_true rfl) dX8_readPicture_2 ⟨Nat.le_of_ble_eq_true rfl, Nat.le_of_ble_eq_true rfl⟩) (fun u_1 H locs hw_1 hP hD hS => ?_)
  obtain ⟨sp_1, ig_1⟩ := u_1
  try dsimp only at hw_1
  have hP : va_P D vwCl [(sc, .inl (tc 0, 120, .inl scr)), (rd, .inl (tc 0, 357, .inl rrow)), (mo, .inr (8, [.int rf, .ref sc, .int ss, .int sp_1, .int ig_1, .int lf, .ref rd, .ref nw, .ref tr, .ref di, .int ac, .ref kp, .ref ik]))] H := hP
  have hD : va_D A [(sc, .inl (tc 0, 120, .inl scr)), (rd, .inl (tc 0, 357, .inl rrow)), (mo, .inr (8, [.int rf, .ref sc, .int ss, .int sp_1, .int ig_1, .int lf, .ref rd, .ref nw, .ref tr, .ref di, .int ac, .ref kp, .ref ik]))] := hD
  have hf_1 := fr_accept hw_1 (by omega)
  refine lv_iconst (v := 0) hx hb dX8_readPicture_5 (by decide) ?_
  refine lv_istore_n (lv' := [(1, .int 0), (0, .ref mo)]) hx hb dX8_readPicture_6 rfl hl (by decide) rfl (fun ls hl => ?_)
  refine lv_iconst (v := 0) hx hb dX8_readPicture_7 (by decide) ?_
  refine lv_istore_n (lv' := [(2, .int 0), (1, .int 0), (0, .ref mo)]) hx hb dX8_readPicture_8 rfl hl (by decide) rfl (fun ls hl => ?_)
  refine lv_iload_n hx hb dX8_readPicture_9 rfl (lv_at hl 0 rfl) ?_
  refine lv_bipush (v := 6) hx hb dX8_readPicture_10 (by decide) ?_
  refine lv_icmp_ge (tgt := 34) hx hb dX8_readPicture_12 (by decide) (fun c_2 => ?_) (fun c_2 => ?_)
  · exact absurd c_2 (by decide)
  · refine lv_bipush (v := 10) hx hb dX8_readPicture_15 (by decide) ?_
    refine lv_iload_n hx hb dX8_readPicture_17 rfl (lv_at hl 1 rfl) ?_
    refine lv_imul hx hb dX8_readPicture_18 ?_
    refine lv_aload_n hx hb dX8_readPicture_19 rfl (lv_at hl 2 rfl) ?_
    refine lv_iconst (v := 0) hx hb dX8_readPicture_20 (by decide) ?_
    refine lv_bipush (v := 9) hx hb dX8_readPicture_21 (by decide) ?_
    refine fc_goi (isC := [2, 0]) (isR := [1]) (wc := [(mo, .inr (8, [.int rf, .ref sc, .int ss, .int sp_1, .int ig_1, .int lf, .ref rd, .ref nw, .ref tr, .ref di, .int ac, .ref kp, .ref ik])), (sc, .inl (tc 0, 120, .inl scr))]) (wr := [(rd, .inl (tc 0, 357, .inl rrow))]) hP hD hS hA rfl rfl (by decide) (by decide) (fc_runV (isC := [2, 0]) (As := [.int 0, .int 9]) (rest := [.int (10 * 0)]) hx hb hml hown hts hK hE hP hD hS hA rfl (by decide) (c_X8_digit l D tc mo sc rd nw tr di kp ik rf ss sp_1 ig_1 lf ac scr 0 9 _ (by have l_0 : (0 : Int32).toInt = 0 := (by decide); have l_1 : (1 : Int32).toInt = 1 := (by decide); have l_2 : (2 : Int32).toInt = 2 := (by decide); have l_3 : (3 : Int32).toInt = 3 := (by decide); have l_4 : (4 : Int32).toInt = 4 := (by decide); have l_9 : (9 : Int32).toInt = 9 := (by decide); (try simp only [fc_le, fc_lt, fc_eq]); omega) (by have l_0 : (0 : Int32).toInt = 0 := (by decide); have l_1 : (1 : Int32).toInt = 1 := (by decide); have l_2 : (2 : Int32).toInt = 2 := (by decide); have l_3 : (3 : Int32).toInt = 3 := (by decide); have l_4 : (4 : Int32).toInt = 4 := (by decide); have l_9 : (9 : Int32).toInt = 9 := (by decide); (try simp only [fc_le, fc_lt, fc_eq]); omega)) (cwV 2 hts gX8_readPicture_X8_digit rfl rfl rfl hd_X8_digit ⟨Nat.le_of_ble_eq_true rfl, Nat.le_of_ble_eq_true rfl⟩) (ci := 8) rfl rfl rfl rfl hl.1 rfl (Nat.le_of_ble_eq_true rfl) dX8_readPicture_23 ⟨Nat.le_of_ble_eq_true rfl, Nat.le_of_ble_eq_true rfl⟩) (fun r_3 u_3 H locs hw_3 hP hD hS => ?_)
    obtain ⟨sp_3, ig_3⟩ := u_3
    try dsimp only at hw_3
    have hP : va_P D vwCl [(rd, .inl (tc 0, 357, .inl rrow)), (mo, .inr (8, [.int rf, .ref sc, .int ss, .int sp_3, .int ig_3, .int lf, .ref rd, .ref nw, .ref tr, .ref di, .int ac, .ref kp, .ref ik])), (sc, .inl (tc 0, 120, .inl scr))] H := hP
    have hD : va_D A [(rd, .inl (tc 0, 357, .inl rrow)), (mo, .inr (8, [.int rf, .ref sc, .int ss, .int sp_3, .int ig_3, .int lf, .ref rd, .ref nw, .ref tr, .ref di, .int ac, .ref kp, .ref ik])), (sc, .inl (tc 0, 120, .inl scr))] := hD
    have hf_3 := fr_digit hw_3 (by omega)
    refine lv_iadd hx hb dX8_readPicture_26 ?_
    refine lv_istore_n (lv' := [(1, .int ((10 * 0) + r_3)), (2, .int 0), (0, .ref mo)]) hx hb dX8_readPicture_27 rfl hl (by decide) rfl (fun ls hl => ?_)
    refine lv_iinc (v := 1) (lv' := [(2, .int 1), (1, .int ((10 * 0) + r_3)), (0, .ref mo)]) hx hb dX8_readPicture_28 hl (k := 1) rfl rfl (by decide) rfl (fun ls hl => ?_)
    refine lv_goto (tgt := 9) hx hb dX8_readPicture_31 (by decide) ?_
    refine lv_iload_n hx hb dX8_readPicture_9 rfl (lv_at hl 0 rfl) ?_
    refine lv_bipush (v := 6) hx hb dX8_readPicture_10 (by decide) ?_
    refine lv_icmp_ge (tgt := 34) hx hb dX8_readPicture_12 (by decide) (fun c_4 => ?_) (fun c_4 => ?_)
    · exact absurd c_4 (by decide)
    · refine lv_bipush (v := 10) hx hb dX8_readPicture_15 (by decide) ?_
      refine lv_iload_n hx hb dX8_readPicture_17 rfl (lv_at hl 1 rfl) ?_
      refine lv_imul hx hb dX8_readPicture_18 ?_
      refine lv_aload_n hx hb dX8_readPicture_19 rfl (lv_at hl 2 rfl) ?_
      refine lv_iconst (v := 0) hx hb dX8_readPicture_20 (by decide) ?_
      refine lv_bipush (v := 9) hx hb dX8_readPicture_21 (by decide) ?_
      refine fc_goi (isC := [1, 2]) (isR := [0]) (wc := [(mo, .inr (8, [.int rf, .ref sc, .int ss, .int sp_3, .int ig_3, .int lf, .ref rd, .ref nw, .ref tr, .ref di, .int ac, .ref kp, .ref ik])), (sc, .inl (tc 0, 120, .inl scr))]) (wr := [(rd, .inl (tc 0, 357, .inl rrow))]) hP hD hS hA rfl rfl (by decide) (by decide) (fc_runV (isC := [1, 2]) (As := [.int 0, .int 9]) (rest := [.int (10 * ((10 * 0) + r_3))]) hx hb hml hown hts hK hE hP hD hS hA rfl (by decide) (c_X8_digit l D tc mo sc rd nw tr di kp ik rf ss sp_3 ig_3 lf ac scr 0 9 _ (by have l_0 : (0 : Int32).toInt = 0 := (by decide); have l_1 : (1 : Int32).toInt = 1 := (by decide); have l_2 : (2 : Int32).toInt = 2 := (by decide); have l_3 : (3 : Int32).toInt = 3 := (by decide); have l_4 : (4 : Int32).toInt = 4 := (by decide); have l_9 : (9 : Int32).toInt = 9 := (by decide); (try simp only [fc_le, fc_lt, fc_eq]); omega) (by have l_0 : (0 : Int32).toInt = 0 := (by decide); have l_1 : (1 : Int32).toInt = 1 := (by decide); have l_2 : (2 : Int32).toInt = 2 := (by decide); have l_3 : (3 : Int32).toInt = 3 := (by decide); have l_4 : (4 : Int32).toInt = 4 := (by decide); have l_9 : (9 : Int32).toInt = 9 := (by decide); (try simp only [fc_le, fc_lt, fc_eq]); omega)) (cwV 2 hts gX8_readPicture_X8_digit rfl rfl rfl hd_X8_digit ⟨Nat.le_of_ble_eq_true rfl, Nat.le_of_ble_eq_true rfl⟩) (ci := 8) rfl rfl rfl rfl hl.1 rfl (Nat.le_of_ble_eq_true rfl) dX8_readPicture_23 ⟨Nat.le_of_ble_eq_true rfl, Nat.le_of_ble_eq_true rfl⟩) (fun r_5 u_5 H locs hw_5 hP hD hS => ?_)
      obtain ⟨sp_5, ig_5⟩ := u_5
      try dsimp only at hw_5
      have hP : va_P D vwCl [(rd, .inl (tc 0, 357, .inl rrow)), (mo, .inr (8, [.int rf, .ref sc, .int ss, .int sp_5, .int ig_5, .int lf, .ref rd, .ref nw, .ref tr, .ref di, .int ac, .ref kp, .ref ik])), (sc, .inl (tc 0, 120, .inl scr))] H := hP
      have hD : va_D A [(rd, .inl (tc 0, 357, .inl rrow)), (mo, .inr (8, [.int rf, .ref sc, .int ss, .int sp_5, .int ig_5, .int lf, .ref rd, .ref nw, .ref tr, .ref di, .int ac, .ref kp, .ref ik])), (sc, .inl (tc 0, 120, .inl scr))] := hD
      have hf_5 := fr_digit hw_5 (by omega)
      refine lv_iadd hx hb dX8_readPicture_26 ?_
      refine lv_istore_n (lv' := [(1, .int ((10 * ((10 * 0) + r_3)) + r_5)), (2, .int 1), (0, .ref mo)]) hx hb dX8_readPicture_27 rfl hl (by decide) rfl (fun ls hl => ?_)
      refine lv_iinc (v := 2) (lv' := [(2, .int 2), (1, .int ((10 * ((10 * 0) + r_3)) + r_5)), (0, .ref mo)]) hx hb dX8_readPicture_28 hl (k := 1) rfl rfl (by decide) rfl (fun ls hl => ?_)
      refine lv_goto (tgt := 9) hx hb dX8_readPicture_31 (by decide) ?_
      refine lv_iload_n hx hb dX8_readPicture_9 rfl (lv_at hl 0 rfl) ?_
      refine lv_bipush (v := 6) hx hb dX8_readPicture_10 (by decide) ?_
      refine lv_icmp_ge (tgt := 34) hx hb dX8_readPicture_12 (by decide) (fun c_6 => ?_) (fun c_6 => ?_)
      · exact absurd c_6 (by decide)
      · refine lv_bipush (v := 10) hx hb dX8_readPicture_15 (by decide) ?_
        refine lv_iload_n hx hb dX8_readPicture_17 rfl (lv_at hl 1 rfl) ?_
        refine lv_imul hx hb dX8_readPicture_18 ?_
        refine lv_aload_n hx hb dX8_readPicture_19 rfl (lv_at hl 2 rfl) ?_
        refine lv_iconst (v := 0) hx hb dX8_readPicture_20 (by decide) ?_
        refine lv_bipush (v := 9) hx hb dX8_readPicture_21 (by decide) ?_
        refine fc_goi (isC := [1, 2]) (isR := [0]) (wc := [(mo, .inr (8, [.int rf, .ref sc, .int ss, .int sp_5, .int ig_5, .int lf, .ref rd, .ref nw, .ref tr, .ref di, .int ac, .ref kp, .ref ik])), (sc, .inl (tc 0, 120, .inl scr))]) (wr := [(rd, .inl (tc 0, 357, .inl rrow))]) hP hD hS hA rfl rfl (by decide) (by decide) (fc_runV (isC := [1, 2]) (As := [.int 0, .int 9]) (rest := [.int (10 * ((10 * ((10 * 0) + r_3)) + r_5))]) hx hb hml hown hts hK hE hP hD hS hA rfl (by decide) (c_X8_digit l D tc mo sc rd nw tr di kp ik rf ss sp_5 ig_5 lf ac scr 0 9 _ (by have l_0 : (0 : Int32).toInt = 0 := (by decide); have l_1 : (1 : Int32).toInt = 1 := (by decide); have l_2 : (2 : Int32).toInt = 2 := (by decide); have l_3 : (3 : Int32).toInt = 3 := (by decide); have l_4 : (4 : Int32).toInt = 4 := (by decide); have l_9 : (9 : Int32).toInt = 9 := (by decide); (try simp only [fc_le, fc_lt, fc_eq]); omega) (by have l_0 : (0 : Int32).toInt = 0 := (by decide); have l_1 : (1 : Int32).toInt = 1 := (by decide); have l_2 : (2 : Int32).toInt = 2 := (by decide); have l_3 : (3 : Int32).toInt = 3 := (by decide); have l_4 : (4 : Int32).toInt = 4 := (by decide); have l_9 : (9 : Int32).toInt = 9 := (by decide); (try simp only [fc_le, fc_lt, fc_eq]); omega)) (cwV 2 hts gX8_readPicture_X8_digit rfl rfl rfl hd_X8_digit ⟨Nat.le_of_ble_eq_true rfl, Nat.le_of_ble_eq_true rfl⟩) (ci := 8) rfl rfl rfl rfl hl.1 rfl (Nat.le_of_ble_eq_true rfl) dX8_readPicture_23 ⟨Nat.le_of_ble_eq_true rfl, Nat.le_of_ble_eq_true rfl⟩) (fun r_7 u_7 H locs hw_7 hP hD hS => ?_)
        obtain ⟨sp_7, ig_7⟩ := u_7
        try dsimp only at hw_7
        have hP : va_P D vwCl [(rd, .inl (tc 0, 357, .inl rrow)), (mo, .inr (8, [.int rf, .ref sc, .int ss, .int sp_7, .int ig_7, .int lf, .ref rd, .ref nw, .ref tr, .ref di, .int ac, .ref kp, .ref ik])), (sc, .inl (tc 0, 120, .inl scr))] H := hP
        have hD : va_D A [(rd, .inl (tc 0, 357, .inl rrow)), (mo, .inr (8, [.int rf, .ref sc, .int ss, .int sp_7, .int ig_7, .int lf, .ref rd, .ref nw, .ref tr, .ref di, .int ac, .ref kp, .ref ik])), (sc, .inl (tc 0, 120, .inl scr))] := hD
        have hf_7 := fr_digit hw_7 (by omega)
        refine lv_iadd hx hb dX8_readPicture_26 ?_
        refine lv_istore_n (lv' := [(1, .int ((10 * ((10 * ((10 * 0) + r_3)) + r_5)) + r_7)), (2, .int 2), (0, .ref mo)]) hx hb dX8_readPicture_27 rfl hl (by decide) rfl (fun ls hl => ?_)
        refine lv_iinc (v := 3) (lv' := [(2, .int 3), (1, .int ((10 * ((10 * ((10 * 0) + r_3)) + r_5)) + r_7)), (0, .ref mo)]) hx hb dX8_readPicture_28 hl (k := 1) rfl rfl (by decide) rfl (fun ls hl => ?_)
        refine lv_goto (tgt := 9) hx hb dX8_readPicture_31 (by decide) ?_
        refine lv_iload_n hx hb dX8_readPicture_9 rfl (lv_at hl 0 rfl) ?_
        refine lv_bipush (v := 6) hx hb dX8_readPicture_10 (by decide) ?_
        refine lv_icmp_ge (tgt := 34) hx hb dX8_readPicture_12 (by decide) (fun c_8 => ?_) (fun c_8 => ?_)
        · exact absurd c_8 (by decide)
        · refine lv_bipush (v := 10) hx hb dX8_readPicture_15 (by decide) ?_
          refine lv_iload_n hx hb dX8_readPicture_17 rfl (lv_at hl 1 rfl) ?_
          refine lv_imul hx hb dX8_readPicture_18 ?_
          refine lv_aload_n hx hb dX8_readPicture_19 rfl (lv_at hl 2 rfl) ?_
          refine lv_iconst (v := 0) hx hb dX8_readPicture_20 (by decide) ?_
          refine lv_bipush (v := 9) hx hb dX8_readPicture_21 (by decide) ?_
          refine fc_goi (isC := [1, 2]) (isR := [0]) (wc := [(mo, .inr (8, [.int rf, .ref sc, .int ss, .int sp_7, .int ig_7, .int lf, .ref rd, .ref nw, .ref tr, .ref di, .int ac, .ref kp, .ref ik])), (sc, .inl (tc 0, 120, .inl scr))]) (wr := [(rd, .inl (tc 0, 357, .inl rrow))]) hP hD hS hA rfl rfl (by decide) (by decide) (fc_runV (isC := [1, 2]) (As := [.int 0, .int 9]) (rest := [.int (10 * ((10 * ((10 * ((10 * 0) + r_3)) + r_5)) + r_7))]) hx hb hml hown hts hK hE hP hD hS hA rfl (by decide) (c_X8_digit l D tc mo sc rd nw tr di kp ik rf ss sp_7 ig_7 lf ac scr 0 9 _ (by have l_0 : (0 : Int32).toInt = 0 := (by decide); have l_1 : (1 : Int32).toInt = 1 := (by decide); have l_2 : (2 : Int32).toInt = 2 := (by decide); have l_3 : (3 : Int32).toInt = 3 := (by decide); have l_4 : (4 : Int32).toInt = 4 := (by decide); have l_9 : (9 : Int32).toInt = 9 := (by decide); (try simp only [fc_le, fc_lt, fc_eq]); omega) (by have l_0 : (0 : Int32).toInt = 0 := (by decide); have l_1 : (1 : Int32).toInt = 1 := (by decide); have l_2 : (2 : Int32).toInt = 2 := (by decide); have l_3 : (3 : Int32).toInt = 3 := (by decide); have l_4 : (4 : Int32).toInt = 4 := (by decide); have l_9 : (9 : Int32).toInt = 9 := (by decide); (try simp only [fc_le, fc_lt, fc_eq]); omega)) (cwV 2 hts gX8_readPicture_X8_digit rfl rfl rfl hd_X8_digit ⟨Nat.le_of_ble_eq_true rfl, Nat.le_of_ble_eq_true rfl⟩) (ci := 8) rfl rfl rfl rfl hl.1 rfl (Nat.le_of_ble_eq_true rfl) dX8_readPicture_23 ⟨Nat.le_of_ble_eq_true rfl, Nat.le_of_ble_eq_true rfl⟩) (fun r_9 u_9 H locs hw_9 hP hD hS => ?_)
          obtain ⟨sp_9, ig_9⟩ := u_9
          try dsimp only at hw_9
          have hP : va_P D vwCl [(rd, .inl (tc 0, 357, .inl rrow)), (mo, .inr (8, [.int rf, .ref sc, .int ss, .int sp_9, .int ig_9, .int lf, .ref rd, .ref nw, .ref tr, .ref di, .int ac, .ref kp, .ref ik])), (sc, .inl (tc 0, 120, .inl scr))] H := hP
          have hD : va_D A [(rd, .inl (tc 0, 357, .inl rrow)), (mo, .inr (8, [.int rf, .ref sc, .int ss, .int sp_9, .int ig_9, .int lf, .ref rd, .ref nw, .ref tr, .ref di, .int ac, .ref kp, .ref ik])), (sc, .inl (tc 0, 120, .inl scr))] := hD
          have hf_9 := fr_digit hw_9 (by omega)
          refine lv_iadd hx hb dX8_readPicture_26 ?_
          refine lv_istore_n (lv' := [(1, .int ((10 * ((10 * ((10 * ((10 * 0) + r_3)) + r_5)) + r_7)) + r_9)), (2, .int 3), (0, .ref mo)]) hx hb dX8_readPicture_27 rfl hl (by decide) rfl (fun ls hl => ?_)
          refine lv_iinc (v := 4) (lv' := [(2, .int 4), (1, .int ((10 * ((10 * ((10 * ((10 * 0) + r_3)) + r_5)) + r_7)) + r_9)), (0, .ref mo)]) hx hb dX8_readPicture_28 hl (k := 1) rfl rfl (by decide) rfl (fun ls hl => ?_)
          refine lv_goto (tgt := 9) hx hb dX8_readPicture_31 (by decide) ?_
          refine lv_iload_n hx hb dX8_readPicture_9 rfl (lv_at hl 0 rfl) ?_
          refine lv_bipush (v := 6) hx hb dX8_readPicture_10 (by decide) ?_
          refine lv_icmp_ge (tgt := 34) hx hb dX8_readPicture_12 (by decide) (fun c_10 => ?_) (fun c_10 => ?_)
          · exact absurd c_10 (by decide)
          · refine lv_bipush (v := 10) hx hb dX8_readPicture_15 (by decide) ?_
            refine lv_iload_n hx hb dX8_readPicture_17 rfl (lv_at hl 1 rfl) ?_
            refine lv_imul hx hb dX8_readPicture_18 ?_
            refine lv_aload_n hx hb dX8_readPicture_19 rfl (lv_at hl 2 rfl) ?_
            refine lv_iconst (v := 0) hx hb dX8_readPicture_20 (by decide) ?_
            refine lv_bipush (v := 9) hx hb dX8_readPicture_21 (by decide) ?_
            refine fc_goi (isC := [1, 2]) (isR := [0]) (wc := [(mo, .inr (8, [.int rf, .ref sc, .int ss, .int sp_9, .int ig_9, .int lf, .ref rd, .ref nw, .ref tr, .ref di, .int ac, .ref kp, .ref ik])), (sc, .inl (tc 0, 120, .inl scr))]) (wr := [(rd, .inl (tc 0, 357, .inl rrow))]) hP hD hS hA rfl rfl (by decide) (by decide) (fc_runV (isC := [1, 2]) (As := [.int 0, .int 9]) (rest := [.int (10 * ((10 * ((10 * ((10 * ((10 * 0) + r_3)) + r_5)) + r_7)) + r_9))]) hx hb hml hown hts hK hE hP hD hS hA rfl (by decide) (c_X8_digit l D tc mo sc rd nw tr di kp ik rf ss sp_9 ig_9 lf ac scr 0 9 _ (by have l_0 : (0 : Int32).toInt = 0 := (by decide); have l_1 : (1 : Int32).toInt = 1 := (by decide); have l_2 : (2 : Int32).toInt = 2 := (by decide); have l_3 : (3 : Int32).toInt = 3 := (by decide); have l_4 : (4 : Int32).toInt = 4 := (by decide); have l_9 : (9 : Int32).toInt = 9 := (by decide); (try simp only [fc_le, fc_lt, fc_eq]); omega) (by have l_0 : (0 : Int32).toInt = 0 := (by decide); have l_1 : (1 : Int32).toInt = 1 := (by decide); have l_2 : (2 : Int32).toInt = 2 := (by decide); have l_3 : (3 : Int32).toInt = 3 := (by decide); have l_4 : (4 : Int32).toInt = 4 := (by decide); have l_9 : (9 : Int32).toInt = 9 := (by decide); (try simp only [fc_le, fc_lt, fc_eq]); omega)) (cwV 2 hts gX8_readPicture_X8_digit rfl rfl rfl hd_X8_digit ⟨Nat.le_of_ble_eq_true rfl, Nat.le_of_ble_eq_true rfl⟩) (ci := 8) rfl rfl rfl rfl hl.1 rfl (Nat.le_of_ble_eq_true rfl) dX8_readPicture_23 ⟨Nat.le_of_ble_eq_true rfl, Nat.le_of_ble_eq_true rfl⟩) (fun r_11 u_11 H locs hw_11 hP hD hS => ?_)
            obtain ⟨sp_11, ig_11⟩ := u_11
            try dsimp only at hw_11
            have hP : va_P D vwCl [(rd, .inl (tc 0, 357, .inl rrow)), (mo, .inr (8, [.int rf, .ref sc, .int ss, .int sp_11, .int ig_11, .int lf, .ref rd, .ref nw, .ref tr, .ref di, .int ac, .ref kp, .ref ik])), (sc, .inl (tc 0, 120, .inl scr))] H := hP
            have hD : va_D A [(rd, .inl (tc 0, 357, .inl rrow)), (mo, .inr (8, [.int rf, .ref sc, .int ss, .int sp_11, .int ig_11, .int lf, .ref rd, .ref nw, .ref tr, .ref di, .int ac, .ref kp, .ref ik])), (sc, .inl (tc 0, 120, .inl scr))] := hD
            have hf_11 := fr_digit hw_11 (by omega)
            refine lv_iadd hx hb dX8_readPicture_26 ?_
            refine lv_istore_n (lv' := [(1, .int ((10 * ((10 * ((10 * ((10 * ((10 * 0) + r_3)) + r_5)) + r_7)) + r_9)) + r_11)), (2, .int 4), (0, .ref mo)]) hx hb dX8_readPicture_27 rfl hl (by decide) rfl (fun ls hl => ?_)
            refine lv_iinc (v := 5) (lv' := [(2, .int 5), (1, .int ((10 * ((10 * ((10 * ((10 * ((10 * 0) + r_3)) + r_5)) + r_7)) + r_9)) + r_11)), (0, .ref mo)]) hx hb dX8_readPicture_28 hl (k := 1) rfl rfl (by decide) rfl (fun ls hl => ?_)
            refine lv_goto (tgt := 9) hx hb dX8_readPicture_31 (by decide) ?_
            refine lv_iload_n hx hb dX8_readPicture_9 rfl (lv_at hl 0 rfl) ?_
            refine lv_bipush (v := 6) hx hb dX8_readPicture_10 (by decide) ?_
            refine lv_icmp_ge (tgt := 34) hx hb dX8_readPicture_12 (by decide) (fun c_12 => ?_) (fun c_12 => ?_)
            · exact absurd c_12 (by decide)
            · refine lv_bipush (v := 10) hx hb dX8_readPicture_15 (by decide) ?_
              refine lv_iload_n hx hb dX8_readPicture_17 rfl (lv_at hl 1 rfl) ?_
              refine lv_imul hx hb dX8_readPicture_18 ?_
              refine lv_aload_n hx hb dX8_readPicture_19 rfl (lv_at hl 2 rfl) ?_
              refine lv_iconst (v := 0) hx hb dX8_readPicture_20 (by decide) ?_
              refine lv_bipush (v := 9) hx hb dX8_readPicture_21 (by decide) ?_
              refine fc_goi (isC := [1, 2]) (isR := [0]) (wc := [(mo, .inr (8, [.int rf, .ref sc, .int ss, .int sp_11, .int ig_11, .int lf, .ref rd, .ref nw, .ref tr, .ref di, .int ac, .ref kp, .ref ik])), (sc, .inl (tc 0, 120, .inl scr))]) (wr := [(rd, .inl (tc 0, 357, .inl rrow))]) hP hD hS hA rfl rfl (by decide) (by decide) (fc_runV (isC := [1, 2]) (As := [.int 0, .int 9]) (rest := [.int (10 * ((10 * ((10 * ((10 * ((10 * ((10 * 0) + r_3)) + r_5)) + r_7)) + r_9)) + r_11))]) hx hb hml hown hts hK hE hP hD hS hA rfl (by decide) (c_X8_digit l D tc mo sc rd nw tr di kp ik rf ss sp_11 ig_11 lf ac scr 0 9 _ (by have l_0 : (0 : Int32).toInt = 0 := (by decide); have l_1 : (1 : Int32).toInt = 1 := (by decide); have l_2 : (2 : Int32).toInt = 2 := (by decide); have l_3 : (3 : Int32).toInt = 3 := (by decide); have l_4 : (4 : Int32).toInt = 4 := (by decide); have l_9 : (9 : Int32).toInt = 9 := (by decide); (try simp only [fc_le, fc_lt, fc_eq]); omega) (by have l_0 : (0 : Int32).toInt = 0 := (by decide); have l_1 : (1 : Int32).toInt = 1 := (by decide); have l_2 : (2 : Int32).toInt = 2 := (by decide); have l_3 : (3 : Int32).toInt = 3 := (by decide); have l_4 : (4 : Int32).toInt = 4 := (by decide); have l_9 : (9 : Int32).toInt = 9 := (by decide); (try simp only [fc_le, fc_lt, fc_eq]); omega)) (cwV 2 hts gX8_readPicture_X8_digit rfl rfl rfl hd_X8_digit ⟨Nat.le_of_ble_eq_true rfl, Nat.le_of_ble_eq_true rfl⟩) (ci := 8) rfl rfl rfl rfl hl.1 rfl (Nat.le_of_ble_eq_true rfl) dX8_readPicture_23 ⟨Nat.le_of_ble_eq_true rfl, Nat.le_of_ble_eq_true rfl⟩) (fun r_13 u_13 H locs hw_13 hP hD hS => ?_)
              obtain ⟨sp_13, ig_13⟩ := u_13
              try dsimp only at hw_13
              have hP : va_P D vwCl [(rd, .inl (tc 0, 357, .inl rrow)), (mo, .inr (8, [.int rf, .ref sc, .int ss, .int sp_13, .int ig_13, .int lf, .ref rd, .ref nw, .ref tr, .ref di, .int ac, .ref kp, .ref ik])), (sc, .inl (tc 0, 120, .inl scr))] H := hP
              have hD : va_D A [(rd, .inl (tc 0, 357, .inl rrow)), (mo, .inr (8, [.int rf, .ref sc, .int ss, .int sp_13, .int ig_13, .int lf, .ref rd, .ref nw, .ref tr, .ref di, .int ac, .ref kp, .ref ik])), (sc, .inl (tc 0, 120, .inl scr))] := hD
              have hf_13 := fr_digit hw_13 (by omega)
              refine lv_iadd hx hb dX8_readPicture_26 ?_
              refine lv_istore_n (lv' := [(1, .int ((10 * ((10 * ((10 * ((10 * ((10 * ((10 * 0) + r_3)) + r_5)) + r_7)) + r_9)) + r_11)) + r_13)), (2, .int 5), (0, .ref mo)]) hx hb dX8_readPicture_27 rfl hl (by decide) rfl (fun ls hl => ?_)
              refine lv_iinc (v := 6) (lv' := [(2, .int 6), (1, .int ((10 * ((10 * ((10 * ((10 * ((10 * ((10 * 0) + r_3)) + r_5)) + r_7)) + r_9)) + r_11)) + r_13)), (0, .ref mo)]) hx hb dX8_readPicture_28 hl (k := 1) rfl rfl (by decide) rfl (fun ls hl => ?_)
              refine lv_goto (tgt := 9) hx hb dX8_readPicture_31 (by decide) ?_
              refine lv_iload_n hx hb dX8_readPicture_9 rfl (lv_at hl 0 rfl) ?_
              refine lv_bipush (v := 6) hx hb dX8_readPicture_10 (by decide) ?_
              refine lv_icmp_ge (tgt := 34) hx hb dX8_readPicture_12 (by decide) (fun c_14 => ?_) (fun c_14 => ?_)
              · refine lv_aload_n hx hb dX8_readPicture_34 rfl (lv_at hl 2 rfl) ?_
                refine va_get (D := D) (ci := 8) (v := .int ig_13) (C := RX8) (T := TX8) (N := 13) hx hb hts iX8_readPicture_X8 hown hK hP 1 rfl rfl 4 (by decide) (hts (.fieldLink RX8 110 "FrameCardModel" "isGood" "Z") (by decide +kernel)) (fun _ h9 => h9) rfl dX8_readPicture_35 ?_
                refine lv_if_eq (tgt := 50) hx hb dX8_readPicture_38 (by decide) (fun c_15 => ?_) (fun c_15 => ?_)
                · exact hret _ _ (sp_13, ig_13, rrow) _ _ (by rw [mX8_readPicture]; rw [hw_1]; rw [mX8_readPicture_C1]; (try dsimp only); rw [hw_3]; rw [mX8_readPicture_C3]; (try dsimp only); rw [hw_5]; rw [mX8_readPicture_C5]; (try dsimp only); rw [hw_7]; rw [mX8_readPicture_C7]; (try dsimp only); rw [hw_9]; rw [mX8_readPicture_C9]; (try dsimp only); rw [hw_11]; rw [mX8_readPicture_C11]; (try dsimp only); rw [hw_13]; rw [mX8_readPicture_C13]; (try dsimp only); rw [if_pos c_15]; (first | done | rfl)) (hP.sub [1, 2, 0] rfl) (hD.sub [1, 2, 0] (by decide) rfl) hS dX8_readPicture_50
                · refine lv_aload_n hx hb dX8_readPicture_41 rfl (lv_at hl 2 rfl) ?_
                  refine va_get (D := D) (ci := 8) (v := .ref rd) (C := RX8) (T := TX8) (N := 13) hx hb hts iX8_readPicture_X8 hown hK hP 1 rfl rfl 6 (by decide) (hts (.fieldLink RX8 13 "FrameCardModel" "read" "[I") (by decide +kernel)) (fun _ h9 => h9) rfl dX8_readPicture_42 ?_
                  refine lv_iload_n hx hb dX8_readPicture_45 rfl (lv_at hl 1 rfl) ?_
                  refine fc_goi (isC := [0]) (isR := [1, 2]) (wc := [(rd, .inl (tc 0, 357, .inl rrow))]) (wr := [(mo, .inr (8, [.int rf, .ref sc, .int ss, .int sp_13, .int ig_13, .int lf, .ref rd, .ref nw, .ref tr, .ref di, .int ac, .ref kp, .ref ik])), (sc, .inl (tc 0, 120, .inl scr))]) hP hD hS hA rfl rfl (by decide) (by decide) (fc_runS (isC := [0]) (As := [.ref rd, .int ((10 * ((10 * ((10 * ((10 * ((10 * ((10 * 0) + r_3)) + r_5)) + r_7)) + r_9)) + r_11)) + r_13)]) (rest := []) hx hb hml hown hts hK hE hP hD hS hA rfl (by decide) (c_X8_shootIn l D tc rd rrow ((10 * ((10 * ((10 * ((10 * ((10 * ((10 * 0) + r_3)) + r_5)) + r_7)) + r_9)) + r_11)) + r_13) _ (RX_K hR).2.2) (cwS 2 hts gX8_readPicture_X8_shootIn rfl rfl rfl hd_X8_shootIn ⟨Nat.le_of_ble_eq_true rfl, Nat.le_of_ble_eq_true rfl⟩) rfl hl.1 rfl (Nat.le_of_ble_eq_true rfl) dX8_readPicture_46 ⟨Nat.le_of_ble_eq_true rfl, Nat.le_of_ble_eq_true rfl⟩) (fun r_16 u_16 H locs hw_16 hP hD hS => ?_)
                  obtain ⟨row_16, rfl⟩ : ∃ z, z = u_16 := ⟨_, rfl⟩
                  try dsimp only at hw_16
                  have hP : va_P D vwCl [(mo, .inr (8, [.int rf, .ref sc, .int ss, .int sp_13, .int ig_13, .int lf, .ref rd, .ref nw, .ref tr, .ref di, .int ac, .ref kp, .ref ik])), (sc, .inl (tc 0, 120, .inl scr)), (rd, .inl (tc 0, 357, .inl row_16))] H := hP
                  have hD : va_D A [(mo, .inr (8, [.int rf, .ref sc, .int ss, .int sp_13, .int ig_13, .int lf, .ref rd, .ref nw, .ref tr, .ref di, .int ac, .ref kp, .ref ik])), (sc, .inl (tc 0, 120, .inl scr)), (rd, .inl (tc 0, 357, .inl row_16))] := hD
                  refine lv_pop hx hb dX8_readPicture_49 rfl ?_
                  exact hret _ _ (sp_13, ig_13, row_16) _ _ (by rw [mX8_readPicture]; rw [hw_1]; rw [mX8_readPicture_C1]; (try dsimp only); rw [hw_3]; rw [mX8_readPicture_C3]; (try dsimp only); rw [hw_5]; rw [mX8_readPicture_C5]; (try dsimp only); rw [hw_7]; rw [mX8_readPicture_C7]; (try dsimp only); rw [hw_9]; rw [mX8_readPicture_C9]; (try dsimp only); rw [hw_11]; rw [mX8_readPicture_C11]; (try dsimp only); rw [hw_13]; rw [mX8_readPicture_C13]; (try dsimp only); rw [if_neg c_15]; rw [hw_16]; rw [mX8_readPicture_C16]; (try dsimp only); (first | done | rfl)) (hP.sub [0, 1, 2] rfl) (hD.sub [0, 1, 2] (by decide) rfl) hS dX8_readPicture_50
              · exact absurd (by decide) c_14
theorem fr_readPicture {rf ss sp ig lf ac : Int32} {scr rrow rrow' : Nat → Int32} {sp' ig' : Int32} (h : mX8_readPicture rf ss sp ig lf ac scr rrow = (sp', ig', rrow')) (hs : 0 ≤ sp.toInt ∧ sp.toInt ≤ 10000) : pMove sp ig sp' ig' 7 ∧ ∀ m, RXn (m + 1) rrow → RXn m rrow' := by
  rw [mX8_readPicture] at h
  generalize e1 : mX8_accept rf ss sp ig lf ac 1 = z1 at h
  have m1 := fr_acceptM (sp' := z1.1) (ig' := z1.2) e1 (by omega)
  rw [mX8_readPicture_C1] at h
  generalize e2 : mX8_digit rf ss z1.1 z1.2 lf ac scr 0 9 = z2 at h
  have m2 := m1.trans (fr_digitM (r := z2.1) (sp' := z2.2.1) (ig' := z2.2.2) e2 (by unfold pMove at m1; omega))
  have g2 := fr_digit09 (r := z2.1) (sp' := z2.2.1) (ig' := z2.2.2) e2
  rw [mX8_readPicture_C3] at h
  generalize e3 : mX8_digit rf ss z2.2.1 z2.2.2 lf ac scr 0 9 = z3 at h
  have m3 := m2.trans (fr_digitM (r := z3.1) (sp' := z3.2.1) (ig' := z3.2.2) e3 (by unfold pMove at m2; omega))
  have g3 := fr_digit09 (r := z3.1) (sp' := z3.2.1) (ig' := z3.2.2) e3
  rw [mX8_readPicture_C5] at h
  generalize e4 : mX8_digit rf ss z3.2.1 z3.2.2 lf ac scr 0 9 = z4 at h
  have m4 := m3.trans (fr_digitM (r := z4.1) (sp' := z4.2.1) (ig' := z4.2.2) e4 (by unfold pMove at m3; omega))
  have g4 := fr_digit09 (r := z4.1) (sp' := z4.2.1) (ig' := z4.2.2) e4
  rw [mX8_readPicture_C7] at h
  generalize e5 : mX8_digit rf ss z4.2.1 z4.2.2 lf ac scr 0 9 = z5 at h
  have m5 := m4.trans (fr_digitM (r := z5.1) (sp' := z5.2.1) (ig' := z5.2.2) e5 (by unfold pMove at m4; omega))
  have g5 := fr_digit09 (r := z5.1) (sp' := z5.2.1) (ig' := z5.2.2) e5
  rw [mX8_readPicture_C9] at h
  generalize e6 : mX8_digit rf ss z5.2.1 z5.2.2 lf ac scr 0 9 = z6 at h
  have m6 := m5.trans (fr_digitM (r := z6.1) (sp' := z6.2.1) (ig' := z6.2.2) e6 (by unfold pMove at m5; omega))
  have g6 := fr_digit09 (r := z6.1) (sp' := z6.2.1) (ig' := z6.2.2) e6
  rw [mX8_readPicture_C11] at h
  generalize e7 : mX8_digit rf ss z6.2.1 z6.2.2 lf ac scr 0 9 = z7 at h
  have m7 := m6.trans (fr_digitM (r := z7.1) (sp' := z7.2.1) (ig' := z7.2.2) e7 (by unfold pMove at m6; omega))
  have g7 := fr_digit09 (r := z7.1) (sp' := z7.2.1) (ig' := z7.2.2) e7
  rw [mX8_readPicture_C13] at h
  by_cases hc : z7.2.2 = 0
  · rw [if_pos hc] at h
    obtain ⟨q1, q2⟩ := Prod.mk.inj h
    obtain ⟨q3, q4⟩ := Prod.mk.inj q2
    subst q1 q3 q4
    exact ⟨m7, fun m hm => hm.mono (by omega)⟩
  · rw [if_neg hc] at h
    generalize e8 : mX8_shootIn rrow ((10 * ((10 * ((10 * ((10 * ((10 * ((10 * 0) + z2.1)) + z3.1)) + z4.1)) + z5.1)) + z6.1)) + z7.1) = z8 at h
    rw [mX8_readPicture_C16] at h
    obtain ⟨q1, q2⟩ := Prod.mk.inj h
    obtain ⟨q3, q4⟩ := Prod.mk.inj q2
    subst q1 q3 q4
    refine ⟨m7, fun m hm => RX_shoot (r := z8.1) (row' := z8.2) hm ?_ e8⟩
    have z0 : ((10 : Int32) * 0).toInt = 0 := by decide
    have a2 := fc_add (x := ((10 : Int32) * 0)) (y := z2.1) (by omega) (by omega)
    have b3 := fc_kmul (x := (((10 : Int32) * 0) + z2.1)) (k := 10) (n := 10) (by decide) (by omega) (by omega)
    have a3 := fc_add (x := (10 * (((10 : Int32) * 0) + z2.1))) (y := z3.1) (by omega) (by omega)
    have b4 := fc_kmul (x := ((10 * (((10 : Int32) * 0) + z2.1)) + z3.1)) (k := 10) (n := 10) (by decide) (by omega) (by omega)
    have a4 := fc_add (x := (10 * ((10 * (((10 : Int32) * 0) + z2.1)) + z3.1))) (y := z4.1) (by omega) (by omega)
    have b5 := fc_kmul (x := ((10 * ((10 * (((10 : Int32) * 0) + z2.1)) + z3.1)) + z4.1)) (k := 10) (n := 10) (by decide) (by omega) (by omega)
    have a5 := fc_add (x := (10 * ((10 * ((10 * (((10 : Int32) * 0) + z2.1)) + z3.1)) + z4.1))) (y := z5.1) (by omega) (by omega)
    have b6 := fc_kmul (x := ((10 * ((10 * ((10 * (((10 : Int32) * 0) + z2.1)) + z3.1)) + z4.1)) + z5.1)) (k := 10) (n := 10) (by decide) (by omega) (by omega)
    have a6 := fc_add (x := (10 * ((10 * ((10 * ((10 * (((10 : Int32) * 0) + z2.1)) + z3.1)) + z4.1)) + z5.1))) (y := z6.1) (by omega) (by omega)
    have b7 := fc_kmul (x := ((10 * ((10 * ((10 * ((10 * (((10 : Int32) * 0) + z2.1)) + z3.1)) + z4.1)) + z5.1)) + z6.1)) (k := 10) (n := 10) (by decide) (by omega) (by omega)
    have a7 := fc_add (x := (10 * ((10 * ((10 * ((10 * ((10 * (((10 : Int32) * 0) + z2.1)) + z3.1)) + z4.1)) + z5.1)) + z6.1))) (y := z7.1) (by omega) (by omega)
    omega
--# X8_readDrop
theorem hd_X8_two : yX8_two.cls = RX8 ∧ yX8_two.cls ≠ "java/lang/invoke/MethodHandle" ∧ yX8_two.cls ≠ "java/lang/invoke/VarHandle" ∧ (parseMethodDescriptor yX8_two.desc).map (fun d => d.parameters.length) = some 2 := by decide +kernel
theorem hd_X8_twon : yX8_two.cls ≠ "java/lang/invoke/MethodHandle" ∧ yX8_two.cls ≠ "java/lang/invoke/VarHandle" ∧ (parseMethodDescriptor yX8_two.desc).map (fun d => d.parameters.length) = some 2 := by decide +kernel
noncomputable def mX8_readDrop_C7 (lf : Int32) (sp_2 : Int32) (ig_2 : Int32) (z_7 : Int32 × (Nat → Int32)) : Int32 × Int32 × Int32 × (Nat → Int32) :=
  (sp_2, ig_2, (lf + 0), (z_7.2))
noncomputable def mX8_readDrop_C2 (lf : Int32) (rrow : Nat → Int32) (z_2 : Int32 × Int32 × Int32) : Int32 × Int32 × Int32 × (Nat → Int32) :=
  if (z_2.2.2) = 0 then
    ((z_2.2.1), (z_2.2.2), lf, rrow)
  else
    if (rrow (16 : Int32).toNatClampNeg) ≤ (z_2.1) then
      ((z_2.2.1), (z_2.2.2), (lf + 1), rrow)
    else
      mX8_readDrop_C7 lf (z_2.2.1) (z_2.2.2) (mX8_dropIn rrow (z_2.1))
noncomputable def mX8_readDrop_C1 (rf : Int32) (ss : Int32) (lf : Int32) (ac : Int32) (scr : Nat → Int32) (rrow : Nat → Int32) (z_1 : Int32 × Int32) : Int32 × Int32 × Int32 × (Nat → Int32) :=
  mX8_readDrop_C2 lf rrow (mX8_two rf ss (z_1.1) (z_1.2) lf ac scr 0 47)
noncomputable def mX8_readDrop (rf : Int32) (ss : Int32) (sp : Int32) (ig : Int32) (lf : Int32) (ac : Int32) (scr : Nat → Int32) (rrow : Nat → Int32) : Int32 × Int32 × Int32 × (Nat → Int32) :=
  mX8_readDrop_C1 rf ss lf ac scr rrow (mX8_accept rf ss sp ig lf ac 1)
set_option maxRecDepth 20000 in
theorem iX8_readDrop_X8 : ∀ w ∈ wsX80, w ∈ wsX8_readDrop := by decide +kernel
abbrev rmX8_readDrop : Room := { frames := 3, cells := 0, slots := 0, locals := 73 }
set_option maxHeartbeats 4000000 in
set_option maxRecDepth 100000 in
theorem c_X8_readDrop (l : Launch) (D : va_G) (tc : Nat → ClassId) (mo : Nat) (sc : Nat) (rd : Nat) (nw : Nat) (tr : Nat) (di : Nat) (kp : Nat) (ik : Nat) (rf : Int32) (ss : Int32) (sp : Int32) (ig : Int32) (lf : Int32) (ac : Int32) (scr : Nat → Int32) (rrow : Nat → Int32) (sz : Nat) (hsp : 0 ≤ sp.toInt ∧ sp.toInt ≤ 10000) (hss : 0 ≤ ss.toInt ∧ ss.toInt ≤ 120) (hR : RXn 1 rrow) : Met l yX8_readDrop wsX8_readDrop rmX8_readDrop (va_Pc [.ref mo] (fcB D tc [(mo, .inr (8, [.int rf, .ref sc, .int ss, .int sp, .int ig, .int lf, .ref rd, .ref nw, .ref tr, .ref di, .int ac, .ref kp, .ref ik])), (sc, .inl (tc 0, 120, .inl scr)), (rd, .inl (tc 0, 357, .inl rrow))] sz)) (va_Qv (fun (u : Int32 × Int32 × Int32 × (Nat → Int32)) => mX8_readDrop rf ss sp ig lf ac scr rrow = u) (fun u t => fcO D (va_A [(mo, .inr (8, [.int rf, .ref sc, .int ss, .int sp, .int ig, .int lf, .ref rd, .ref nw, .ref tr, .ref di, .int ac, .ref kp, .ref ik])), (sc, .inl (tc 0, 120, .inl scr)), (rd, .inl (tc 0, 357, .inl rrow))] sz) ((fun (u : Int32 × Int32 × Int32 × (Nat → Int32)) => [(mo, .inr (8, [.int rf, .ref sc, .int ss, .int (u.1), .int (u.2.1), .int (u.2.2.1), .ref rd, .ref nw, .ref tr, .ref di, .int ac, .ref kp, .ref ik])), (sc, .inl (tc 0, 120, .inl scr)), (rd, .inl (tc 0, 357, .inl (u.2.2.2)))]) u) t) (va_A [(mo, .inr (8, [.int rf, .ref sc, .int ss, .int sp, .int ig, .int lf, .ref rd, .ref nw, .ref tr, .ref di, .int ac, .ref kp, .ref ik])), (sc, .inl (tc 0, 120, .inl scr)), (rd, .inl (tc 0, 357, .inl rrow))] sz)) 0 0 (va_A [(mo, .inr (8, [.int rf, .ref sc, .int ss, .int sp, .int ig, .int lf, .ref rd, .ref nw, .ref tr, .ref di, .int ac, .ref kp, .ref ik])), (sc, .inl (tc 0, 120, .inl scr)), (rd, .inl (tc 0, 357, .inl rrow))] sz) := by
  refine fc_ofWv (own := RX8) (cc := cX8_readDrop) (maxL := 2) (W1 := (fun (u : Int32 × Int32 × Int32 × (Nat → Int32)) => [(mo, .inr (8, [.int rf, .ref sc, .int ss, .int (u.1), .int (u.2.1), .int (u.2.2.1), .ref rd, .ref nw, .ref tr, .ref di, .int ac, .ref kp, .ref ik])), (sc, .inl (tc 0, 120, .inl scr)), (rd, .inl (tc 0, 357, .inl (u.2.2.2)))])) rfl (by decide) rfl (Nat.le_of_ble_eq_true rfl) ?_
  intro p e s m args below meth c A Q hx hb hml hown hts hK hE hP hD hS hA hin hret ls hl
  have hl : lv_has ls 2 [(0, .ref mo)] := hl
  refine lv_aload_n hx hb dX8_readDrop_0 rfl (lv_at hl 0 rfl) ?_
  refine lv_iconst (v := 1) hx hb dX8_readDrop_1 (by decide) ?_
  refine fc_gov (isC := [0]) (isR := [1, 2]) (wc := [(mo, .inr (8, [.int rf, .ref sc, .int ss, .int sp, .int ig, .int lf, .ref rd, .ref nw, .ref tr, .ref di, .int ac, .ref kp, .ref ik]))]) (wr := [(sc, .inl (tc 0, 120, .inl scr)), (rd, .inl (tc 0, 357, .inl rrow))]) hP hD hS hA rfl rfl (by decide) (by decide) (fc_runV (isC := [0]) (As := [.int 1]) (rest := []) hx hb hml hown hts hK hE hP hD hS hA rfl (by decide) (c_X8_accept l D tc mo sc rd nw tr di kp ik rf ss sp ig lf ac 1 _ ) (cwV 1 hts gX8_readDrop_X8_accept rfl rfl rfl hd_X8_accept ⟨Nat.le_of_ble_eq_true rfl, Nat.le_of_ble_eq_true rfl⟩) (ci := 8) rfl rfl rfl rfl hl.1 rfl (Nat.le_of_ble_eq_true rfl) dX8_readDrop_2 ⟨Nat.le_of_ble_eq_true rfl, Nat.le_of_ble_eq_true rfl⟩) (fun u_1 H locs hw_1 hP hD hS => ?_)
  obtain ⟨sp_1, ig_1⟩ := u_1
  try dsimp only at hw_1
  have hP : va_P D vwCl [(sc, .inl (tc 0, 120, .inl scr)), (rd, .inl (tc 0, 357, .inl rrow)), (mo, .inr (8, [.int rf, .ref sc, .int ss, .int sp_1, .int ig_1, .int lf, .ref rd, .ref nw, .ref tr, .ref di, .int ac, .ref kp, .ref ik]))] H := hP
  have hD : va_D A [(sc, .inl (tc 0, 120, .inl scr)), (rd, .inl (tc 0, 357, .inl rrow)), (mo, .inr (8, [.int rf, .ref sc, .int ss, .int sp_1, .int ig_1, .int lf, .ref rd, .ref nw, .ref tr, .ref di, .int ac, .ref kp, .ref ik]))] := hD
  have hf_1 := fr_accept hw_1 (by omega)
  refine lv_aload_n hx hb dX8_readDrop_5 rfl (lv_at hl 0 rfl) ?_
  refine lv_iconst (v := 0) hx hb dX8_readDrop_6 (by decide) ?_
  refine lv_bipush (v := 47) hx hb dX8_readDrop_7 (by decide) ?_
  refine fc_goi (isC := [2, 0]) (isR := [1]) (wc := [(mo, .inr (8, [.int rf, .ref sc, .int ss, .int sp_1, .int ig_1, .int lf, .ref rd, .ref nw, .ref tr, .ref di, .int ac, .ref kp, .ref ik])), (sc, .inl (tc 0, 120, .inl scr))]) (wr := [(rd, .inl (tc 0, 357, .inl rrow))]) hP hD hS hA rfl rfl (by decide) (by decide) (fc_runV (isC := [2, 0]) (As := [.int 0, .int 47]) (rest := []) hx hb hml hown hts hK hE hP hD hS hA rfl (by decide) (c_X8_two l D tc mo sc rd nw tr di kp ik rf ss sp_1 ig_1 lf ac scr 0 47 _ (by have l_0 : (0 : Int32).toInt = 0 := (by decide); have l_1 : (1 : Int32).toInt = 1 := (by decide); have l_2 : (2 : Int32).toInt = 2 := (by decide); have l_3 : (3 : Int32).toInt = 3 := (by decide); have l_4 : (4 : Int32).toInt = 4 := (by decide); have l_47 : (47 : Int32).toInt = 47 := (by decide); (try simp only [fc_le, fc_lt, fc_eq]); omega) (by have l_0 : (0 : Int32).toInt = 0 := (by decide); have l_1 : (1 : Int32).toInt = 1 := (by decide); have l_2 : (2 : Int32).toInt = 2 := (by decide); have l_3 : (3 : Int32).toInt = 3 := (by decide); have l_4 : (4 : Int32).toInt = 4 := (by decide); have l_47 : (47 : Int32).toInt = 47 := (by decide); (try simp only [fc_le, fc_lt, fc_eq]); omega)) (cwV 2 hts gX8_readDrop_X8_two rfl rfl rfl hd_X8_two ⟨Nat.le_of_ble_eq_true rfl, Nat.le_of_ble_eq_true rfl⟩) (ci := 8) rfl rfl rfl rfl hl.1 rfl (Nat.le_of_ble_eq_true rfl) dX8_readDrop_9 ⟨Nat.le_of_ble_eq_true rfl, Nat.le_of_ble_eq_true rfl⟩) (fun r_2 u_2 H locs hw_2 hP hD hS => ?_)
  obtain ⟨sp_2, ig_2⟩ := u_2
  try dsimp only at hw_2
  have hP : va_P D vwCl [(rd, .inl (tc 0, 357, .inl rrow)), (mo, .inr (8, [.int rf, .ref sc, .int ss, .int sp_2, .int ig_2, .int lf, .ref rd, .ref nw, .ref tr, .ref di, .int ac, .ref kp, .ref ik])), (sc, .inl (tc 0, 120, .inl scr))] H := hP
  have hD : va_D A [(rd, .inl (tc 0, 357, .inl rrow)), (mo, .inr (8, [.int rf, .ref sc, .int ss, .int sp_2, .int ig_2, .int lf, .ref rd, .ref nw, .ref tr, .ref di, .int ac, .ref kp, .ref ik])), (sc, .inl (tc 0, 120, .inl scr))] := hD
  have hf_2 := fr_two047 hw_2 (by omega)
  refine lv_istore_n (lv' := [(1, .int r_2), (0, .ref mo)]) hx hb dX8_readDrop_12 rfl hl (by decide) rfl (fun ls hl => ?_)
  refine lv_aload_n hx hb dX8_readDrop_13 rfl (lv_at hl 1 rfl) ?_
  refine va_get (D := D) (ci := 8) (v := .int ig_2) (C := RX8) (T := TX8) (N := 13) hx hb hts iX8_readDrop_X8 hown hK hP 1 rfl rfl 4 (by decide) (hts (.fieldLink RX8 110 "FrameCardModel" "isGood" "Z") (by decide +kernel)) (fun _ h9 => h9) rfl dX8_readDrop_14 ?_
  refine lv_if_eq (tgt := 65) hx hb dX8_readDrop_17 (by decide) (fun c_3 => ?_) (fun c_3 => ?_)
  · exact hret _ _ (sp_2, ig_2, lf, rrow) _ _ (by rw [mX8_readDrop]; rw [hw_1]; rw [mX8_readDrop_C1]; (try dsimp only); rw [hw_2]; rw [mX8_readDrop_C2]; (try dsimp only); rw [if_pos c_3]; (first | done | rfl)) (hP.sub [1, 2, 0] rfl) (hD.sub [1, 2, 0] (by decide) rfl) hS dX8_readDrop_65
  · refine lv_aload_n hx hb dX8_readDrop_20 rfl (lv_at hl 1 rfl) ?_
    refine lv_dup hx hb dX8_readDrop_21 rfl ?_
    refine va_get (D := D) (ci := 8) (v := .int lf) (C := RX8) (T := TX8) (N := 13) hx hb hts iX8_readDrop_X8 hown hK hP 1 rfl rfl 5 (by decide) (hts (.fieldLink RX8 129 "FrameCardModel" "leftOut" "I") (by decide +kernel)) (fun _ h9 => h9) rfl dX8_readDrop_22 ?_
    refine lv_iload_n hx hb dX8_readDrop_25 rfl (lv_at hl 0 rfl) ?_
    refine lv_aload_n hx hb dX8_readDrop_26 rfl (lv_at hl 1 rfl) ?_
    refine va_get (D := D) (ci := 8) (v := .ref rd) (C := RX8) (T := TX8) (N := 13) hx hb hts iX8_readDrop_X8 hown hK hP 1 rfl rfl 6 (by decide) (hts (.fieldLink RX8 13 "FrameCardModel" "read" "[I") (by decide +kernel)) (fun _ h9 => h9) rfl dX8_readDrop_27 ?_
    refine lv_bipush (v := 16) hx hb dX8_readDrop_30 (by decide) ?_
    refine va_iald (D := D) hx hb hK hP 0 0 rfl rfl (vp_in_iff.mpr (by decide)) dX8_readDrop_32 ?_
    refine lv_icmp_ge (tgt := 40) hx hb dX8_readDrop_33 (by decide) (fun c_4 => ?_) (fun c_4 => ?_)
    · refine lv_iconst (v := 1) hx hb dX8_readDrop_40 (by decide) ?_
      refine lv_iadd hx hb dX8_readDrop_41 ?_
      refine va_put (D := D) (ci := 8) (v := .int (lf + 1)) (ty := .int) (C := RX8) (T := TX8) (N := 13) hx hb hts iX8_readDrop_X8 tyX8 tyX8_ok nmX8 hown hK hP hD hS 1 rfl rfl 5 (by decide) (hts (.fieldLink RX8 129 "FrameCardModel" "leftOut" "I") (by decide +kernel)) (fun _ h9 => h9) rfl (by decide +kernel) rfl rfl (Nat.le_of_ble_eq_true rfl) dX8_readDrop_42 (fun H locs hP hD hS => ?_)
      have hP : va_P D vwCl [(rd, .inl (tc 0, 357, .inl rrow)), (mo, .inr (8, [.int rf, .ref sc, .int ss, .int sp_2, .int ig_2, .int (lf + 1), .ref rd, .ref nw, .ref tr, .ref di, .int ac, .ref kp, .ref ik])), (sc, .inl (tc 0, 120, .inl scr))] H := hP
      have hD : va_D A [(rd, .inl (tc 0, 357, .inl rrow)), (mo, .inr (8, [.int rf, .ref sc, .int ss, .int sp_2, .int ig_2, .int (lf + 1), .ref rd, .ref nw, .ref tr, .ref di, .int ac, .ref kp, .ref ik])), (sc, .inl (tc 0, 120, .inl scr))] := hD
      refine lv_iload_n hx hb dX8_readDrop_45 rfl (lv_at hl 0 rfl) ?_
      refine lv_aload_n hx hb dX8_readDrop_46 rfl (lv_at hl 1 rfl) ?_
      refine va_get (D := D) (ci := 8) (v := .ref rd) (C := RX8) (T := TX8) (N := 13) hx hb hts iX8_readDrop_X8 hown hK hP 1 rfl rfl 6 (by decide) (hts (.fieldLink RX8 13 "FrameCardModel" "read" "[I") (by decide +kernel)) (fun _ h9 => h9) rfl dX8_readDrop_47 ?_
      refine lv_bipush (v := 16) hx hb dX8_readDrop_50 (by decide) ?_
      refine va_iald (D := D) hx hb hK hP 0 0 rfl rfl (vp_in_iff.mpr (by decide)) dX8_readDrop_52 ?_
      refine lv_icmp_ge (tgt := 65) hx hb dX8_readDrop_53 (by decide) (fun c_5 => ?_) (fun c_5 => ?_)
      · exact hret _ _ (sp_2, ig_2, (lf + 1), rrow) _ _ (by rw [mX8_readDrop]; rw [hw_1]; rw [mX8_readDrop_C1]; (try dsimp only); rw [hw_2]; rw [mX8_readDrop_C2]; (try dsimp only); rw [if_neg c_3]; rw [if_pos c_4]; (first | done | rfl)) (hP.sub [1, 2, 0] rfl) (hD.sub [1, 2, 0] (by decide) rfl) hS dX8_readDrop_65
      · exact absurd c_4 c_5
    · refine lv_iconst (v := 0) hx hb dX8_readDrop_36 (by decide) ?_
      refine lv_goto (tgt := 41) hx hb dX8_readDrop_37 (by decide) ?_
      refine lv_iadd hx hb dX8_readDrop_41 ?_
      refine va_put (D := D) (ci := 8) (v := .int (lf + 0)) (ty := .int) (C := RX8) (T := TX8) (N := 13) hx hb hts iX8_readDrop_X8 tyX8 tyX8_ok nmX8 hown hK hP hD hS 1 rfl rfl 5 (by decide) (hts (.fieldLink RX8 129 "FrameCardModel" "leftOut" "I") (by decide +kernel)) (fun _ h9 => h9) rfl (by decide +kernel) rfl rfl (Nat.le_of_ble_eq_true rfl) dX8_readDrop_42 (fun H locs hP hD hS => ?_)
      have hP : va_P D vwCl [(rd, .inl (tc 0, 357, .inl rrow)), (mo, .inr (8, [.int rf, .ref sc, .int ss, .int sp_2, .int ig_2, .int (lf + 0), .ref rd, .ref nw, .ref tr, .ref di, .int ac, .ref kp, .ref ik])), (sc, .inl (tc 0, 120, .inl scr))] H := hP
      have hD : va_D A [(rd, .inl (tc 0, 357, .inl rrow)), (mo, .inr (8, [.int rf, .ref sc, .int ss, .int sp_2, .int ig_2, .int (lf + 0), .ref rd, .ref nw, .ref tr, .ref di, .int ac, .ref kp, .ref ik])), (sc, .inl (tc 0, 120, .inl scr))] := hD
      refine lv_iload_n hx hb dX8_readDrop_45 rfl (lv_at hl 0 rfl) ?_
      refine lv_aload_n hx hb dX8_readDrop_46 rfl (lv_at hl 1 rfl) ?_
      refine va_get (D := D) (ci := 8) (v := .ref rd) (C := RX8) (T := TX8) (N := 13) hx hb hts iX8_readDrop_X8 hown hK hP 1 rfl rfl 6 (by decide) (hts (.fieldLink RX8 13 "FrameCardModel" "read" "[I") (by decide +kernel)) (fun _ h9 => h9) rfl dX8_readDrop_47 ?_
      refine lv_bipush (v := 16) hx hb dX8_readDrop_50 (by decide) ?_
      refine va_iald (D := D) hx hb hK hP 0 0 rfl rfl (vp_in_iff.mpr (by decide)) dX8_readDrop_52 ?_
      refine lv_icmp_ge (tgt := 65) hx hb dX8_readDrop_53 (by decide) (fun c_6 => ?_) (fun c_6 => ?_)
      · exact absurd c_6 c_4
      · refine lv_aload_n hx hb dX8_readDrop_56 rfl (lv_at hl 1 rfl) ?_
        refine va_get (D := D) (ci := 8) (v := .ref rd) (C := RX8) (T := TX8) (N := 13) hx hb hts iX8_readDrop_X8 hown hK hP 1 rfl rfl 6 (by decide) (hts (.fieldLink RX8 13 "FrameCardModel" "read" "[I") (by decide +kernel)) (fun _ h9 => h9) rfl dX8_readDrop_57 ?_
        refine lv_iload_n hx hb dX8_readDrop_60 rfl (lv_at hl 0 rfl) ?_
        refine fc_goi (isC := [0]) (isR := [1, 2]) (wc := [(rd, .inl (tc 0, 357, .inl rrow))]) (wr := [(mo, .inr (8, [.int rf, .ref sc, .int ss, .int sp_2, .int ig_2, .int (lf + 0), .ref rd, .ref nw, .ref tr, .ref di, .int ac, .ref kp, .ref ik])), (sc, .inl (tc 0, 120, .inl scr))]) hP hD hS hA rfl rfl (by decide) (by decide) (fc_runS (isC := [0]) (As := [.ref rd, .int r_2]) (rest := []) hx hb hml hown hts hK hE hP hD hS hA rfl (by decide) (c_X8_dropIn l D tc rd rrow r_2 _ (RX_K hR).1 (RX_K hR).2.1.2 (by have l_0 : (0 : Int32).toInt = 0 := (by decide); have l_1 : (1 : Int32).toInt = 1 := (by decide); have l_16 : (16 : Int32).toInt = 16 := (by decide); have l_2 : (2 : Int32).toInt = 2 := (by decide); have l_3 : (3 : Int32).toInt = 3 := (by decide); have l_4 : (4 : Int32).toInt = 4 := (by decide); have qc_3 := c_3; (try simp only [fc_le, fc_lt, fc_eq] at qc_3); have qc_4 := c_4; (try simp only [fc_le, fc_lt, fc_eq] at qc_4); (try simp only [fc_le, fc_lt, fc_eq]); omega)) (cwS 2 hts gX8_readDrop_X8_dropIn rfl rfl rfl hd_X8_dropIn ⟨Nat.le_of_ble_eq_true rfl, Nat.le_of_ble_eq_true rfl⟩) rfl hl.1 rfl (Nat.le_of_ble_eq_true rfl) dX8_readDrop_61 ⟨Nat.le_of_ble_eq_true rfl, Nat.le_of_ble_eq_true rfl⟩) (fun r_7 u_7 H locs hw_7 hP hD hS => ?_)
        obtain ⟨row_7, rfl⟩ : ∃ z, z = u_7 := ⟨_, rfl⟩
        try dsimp only at hw_7
        have hP : va_P D vwCl [(mo, .inr (8, [.int rf, .ref sc, .int ss, .int sp_2, .int ig_2, .int (lf + 0), .ref rd, .ref nw, .ref tr, .ref di, .int ac, .ref kp, .ref ik])), (sc, .inl (tc 0, 120, .inl scr)), (rd, .inl (tc 0, 357, .inl row_7))] H := hP
        have hD : va_D A [(mo, .inr (8, [.int rf, .ref sc, .int ss, .int sp_2, .int ig_2, .int (lf + 0), .ref rd, .ref nw, .ref tr, .ref di, .int ac, .ref kp, .ref ik])), (sc, .inl (tc 0, 120, .inl scr)), (rd, .inl (tc 0, 357, .inl row_7))] := hD
        refine lv_pop hx hb dX8_readDrop_64 rfl ?_
        exact hret _ _ (sp_2, ig_2, (lf + 0), row_7) _ _ (by rw [mX8_readDrop]; rw [hw_1]; rw [mX8_readDrop_C1]; (try dsimp only); rw [hw_2]; rw [mX8_readDrop_C2]; (try dsimp only); rw [if_neg c_3]; rw [if_neg c_4]; rw [hw_7]; rw [mX8_readDrop_C7]; (try dsimp only); (first | done | rfl)) (hP.sub [0, 1, 2] rfl) (hD.sub [0, 1, 2] (by decide) rfl) hS dX8_readDrop_65
theorem fr_readDrop {rf ss sp ig lf ac : Int32} {scr rrow rrow' : Nat → Int32} {sp' ig' lf' : Int32} (h : mX8_readDrop rf ss sp ig lf ac scr rrow = (sp', ig', lf', rrow')) (hs : 0 ≤ sp.toInt ∧ sp.toInt ≤ 10000) : pMove sp ig sp' ig' 3 ∧ ∀ m, RXn m rrow → RXn m rrow' := by
  rw [mX8_readDrop] at h
  generalize e1 : mX8_accept rf ss sp ig lf ac 1 = z1 at h
  have m1 := fr_acceptM (sp' := z1.1) (ig' := z1.2) e1 (by omega)
  rw [mX8_readDrop_C1] at h
  generalize e2 : mX8_two rf ss z1.1 z1.2 lf ac scr 0 47 = z2 at h
  have m2 := m1.trans (fr_twoM (r := z2.1) (sp' := z2.2.1) (ig' := z2.2.2) e2 (by unfold pMove at m1; omega))
  have g2 := fr_two047 (r := z2.1) (sp' := z2.2.1) (ig' := z2.2.2) e2 (by unfold pMove at m1; omega)
  rw [mX8_readDrop_C2] at h
  by_cases hc : z2.2.2 = 0
  · rw [if_pos hc] at h
    obtain ⟨q1, q2⟩ := Prod.mk.inj h
    obtain ⟨q3, q4⟩ := Prod.mk.inj q2
    obtain ⟨q5, q6⟩ := Prod.mk.inj q4
    subst q1 q3 q5 q6
    exact ⟨m2, fun m hm => hm⟩
  · rw [if_neg hc] at h
    by_cases hd : rrow (16 : Int32).toNatClampNeg ≤ z2.1
    · rw [if_pos hd] at h
      obtain ⟨q1, q2⟩ := Prod.mk.inj h
      obtain ⟨q3, q4⟩ := Prod.mk.inj q2
      obtain ⟨q5, q6⟩ := Prod.mk.inj q4
      subst q1 q3 q5 q6
      exact ⟨m2, fun m hm => hm⟩
    · rw [if_neg hd] at h
      generalize e8 : mX8_dropIn rrow z2.1 = z8 at h
      rw [mX8_readDrop_C7] at h
      obtain ⟨q1, q2⟩ := Prod.mk.inj h
      obtain ⟨q3, q4⟩ := Prod.mk.inj q2
      obtain ⟨q5, q6⟩ := Prod.mk.inj q4
      subst q1 q3 q5 q6
      exact ⟨m2, fun m hm => RX_dropi (r := z8.1) (row' := z8.2) hm g2.2.1 (fx_nle hd) e8⟩
--# X8_readCommand
theorem hd_X8_isNext : yX8_isNext.cls = RX8 ∧ yX8_isNext.cls ≠ "java/lang/invoke/MethodHandle" ∧ yX8_isNext.cls ≠ "java/lang/invoke/VarHandle" ∧ (parseMethodDescriptor yX8_isNext.desc).map (fun d => d.parameters.length) = some 1 := by decide +kernel
theorem hd_X8_isNextn : yX8_isNext.cls ≠ "java/lang/invoke/MethodHandle" ∧ yX8_isNext.cls ≠ "java/lang/invoke/VarHandle" ∧ (parseMethodDescriptor yX8_isNext.desc).map (fun d => d.parameters.length) = some 1 := by decide +kernel
theorem hd_X8_readDrop : yX8_readDrop.cls = RX8 ∧ yX8_readDrop.cls ≠ "java/lang/invoke/MethodHandle" ∧ yX8_readDrop.cls ≠ "java/lang/invoke/VarHandle" ∧ (parseMethodDescriptor yX8_readDrop.desc).map (fun d => d.parameters.length) = some 0 := by decide +kernel
theorem hd_X8_readDropn : yX8_readDrop.cls ≠ "java/lang/invoke/MethodHandle" ∧ yX8_readDrop.cls ≠ "java/lang/invoke/VarHandle" ∧ (parseMethodDescriptor yX8_readDrop.desc).map (fun d => d.parameters.length) = some 0 := by decide +kernel
theorem hd_X8_readPicture : yX8_readPicture.cls = RX8 ∧ yX8_readPicture.cls ≠ "java/lang/invoke/MethodHandle" ∧ yX8_readPicture.cls ≠ "java/lang/invoke/VarHandle" ∧ (parseMethodDescriptor yX8_readPicture.desc).map (fun d => d.parameters.length) = some 0 := by decide +kernel
theorem hd_X8_readPicturen : yX8_readPicture.cls ≠ "java/lang/invoke/MethodHandle" ∧ yX8_readPicture.cls ≠ "java/lang/invoke/VarHandle" ∧ (parseMethodDescriptor yX8_readPicture.desc).map (fun d => d.parameters.length) = some 0 := by decide +kernel
noncomputable def mX8_readCommand_C9 (lf : Int32) (sp_7 : Int32) (ig_7 : Int32) (z_9 : Int32 × (Nat → Int32)) : Int32 × Int32 × Int32 × (Nat → Int32) :=
  (sp_7, ig_7, lf, (z_9.2))
noncomputable def mX8_readCommand_C10 (lf : Int32) (sp_7 : Int32) (ig_7 : Int32) (z_10 : Int32 × (Nat → Int32)) : Int32 × Int32 × Int32 × (Nat → Int32) :=
  (sp_7, ig_7, lf, (z_10.2))
noncomputable def mX8_readCommand_C7 (lf : Int32) (rrow : Nat → Int32) (z_7 : Int32 × Int32 × Int32) : Int32 × Int32 × Int32 × (Nat → Int32) :=
  if (z_7.2.2) = 0 then
    mX8_readCommand_C9 lf (z_7.2.1) (z_7.2.2) (mX8_ticksIn rrow 0)
  else
    mX8_readCommand_C10 lf (z_7.2.1) (z_7.2.2) (mX8_ticksIn rrow (z_7.1))
noncomputable def mX8_readCommand_C6 (rf : Int32) (ss : Int32) (lf : Int32) (ac : Int32) (scr : Nat → Int32) (rrow : Nat → Int32) (z_6 : Int32 × Int32) : Int32 × Int32 × Int32 × (Nat → Int32) :=
  mX8_readCommand_C7 lf rrow (mX8_digit rf ss (z_6.1) (z_6.2) lf ac scr 1 9)
noncomputable def mX8_readCommand_C11 (z_11 : Int32 × Int32 × Int32 × (Nat → Int32)) : Int32 × Int32 × Int32 × (Nat → Int32) :=
  ((z_11.1), (z_11.2.1), (z_11.2.2.1), (z_11.2.2.2))
noncomputable def mX8_readCommand_C12 (lf : Int32) (z_12 : Int32 × Int32 × (Nat → Int32)) : Int32 × Int32 × Int32 × (Nat → Int32) :=
  ((z_12.1), (z_12.2.1), lf, (z_12.2.2))
noncomputable def mX8_readCommand (rf : Int32) (ss : Int32) (sp : Int32) (ig : Int32) (lf : Int32) (ac : Int32) (scr : Nat → Int32) (rrow : Nat → Int32) : Int32 × Int32 × Int32 × (Nat → Int32) :=
  let r_1 := mX8_isNext rf ss sp ig lf ac scr 115
  if r_1 = 0 then
    let r_3 := mX8_isNext rf ss sp ig lf ac scr 100
    if r_3 = 0 then
      let r_5 := mX8_isNext rf ss sp ig lf ac scr 110
      mX8_readCommand_C6 rf ss lf ac scr rrow (mX8_accept rf ss sp ig lf ac r_5)
    else
      mX8_readCommand_C11 (mX8_readDrop rf ss sp ig lf ac scr rrow)
  else
    mX8_readCommand_C12 lf (mX8_readPicture rf ss sp ig lf ac scr rrow)
set_option maxRecDepth 20000 in
theorem iX8_readCommand_X8 : ∀ w ∈ wsX80, w ∈ wsX8_readCommand := by decide +kernel
abbrev rmX8_readCommand : Room := { frames := 5, cells := 0, slots := 0, locals := 114 }
set_option maxHeartbeats 4000000 in
set_option maxRecDepth 100000 in
theorem c_X8_readCommand (l : Launch) (D : va_G) (tc : Nat → ClassId) (mo : Nat) (sc : Nat) (rd : Nat) (nw : Nat) (tr : Nat) (di : Nat) (kp : Nat) (ik : Nat) (rf : Int32) (ss : Int32) (sp : Int32) (ig : Int32) (lf : Int32) (ac : Int32) (scr : Nat → Int32) (rrow : Nat → Int32) (sz : Nat) (hsp : 0 ≤ sp.toInt ∧ sp.toInt ≤ 10000) (hss : 0 ≤ ss.toInt ∧ ss.toInt ≤ 120) (hR : RXn 60 rrow) : Met l yX8_readCommand wsX8_readCommand rmX8_readCommand (va_Pc [.ref mo] (fcB D tc [(mo, .inr (8, [.int rf, .ref sc, .int ss, .int sp, .int ig, .int lf, .ref rd, .ref nw, .ref tr, .ref di, .int ac, .ref kp, .ref ik])), (sc, .inl (tc 0, 120, .inl scr)), (rd, .inl (tc 0, 357, .inl rrow))] sz)) (va_Qv (fun (u : Int32 × Int32 × Int32 × (Nat → Int32)) => mX8_readCommand rf ss sp ig lf ac scr rrow = u) (fun u t => fcO D (va_A [(mo, .inr (8, [.int rf, .ref sc, .int ss, .int sp, .int ig, .int lf, .ref rd, .ref nw, .ref tr, .ref di, .int ac, .ref kp, .ref ik])), (sc, .inl (tc 0, 120, .inl scr)), (rd, .inl (tc 0, 357, .inl rrow))] sz) ((fun (u : Int32 × Int32 × Int32 × (Nat → Int32)) => [(mo, .inr (8, [.int rf, .ref sc, .int ss, .int (u.1), .int (u.2.1), .int (u.2.2.1), .ref rd, .ref nw, .ref tr, .ref di, .int ac, .ref kp, .ref ik])), (sc, .inl (tc 0, 120, .inl scr)), (rd, .inl (tc 0, 357, .inl (u.2.2.2)))]) u) t) (va_A [(mo, .inr (8, [.int rf, .ref sc, .int ss, .int sp, .int ig, .int lf, .ref rd, .ref nw, .ref tr, .ref di, .int ac, .ref kp, .ref ik])), (sc, .inl (tc 0, 120, .inl scr)), (rd, .inl (tc 0, 357, .inl rrow))] sz)) 0 0 (va_A [(mo, .inr (8, [.int rf, .ref sc, .int ss, .int sp, .int ig, .int lf, .ref rd, .ref nw, .ref tr, .ref di, .int ac, .ref kp, .ref ik])), (sc, .inl (tc 0, 120, .inl scr)), (rd, .inl (tc 0, 357, .inl rrow))] sz) := by
  refine fc_ofWv (own := RX8) (cc := cX8_readCommand) (maxL := 2) (W1 := (fun (u : Int32 × Int32 × Int32 × (Nat → Int32)) => [(mo, .inr (8, [.int rf, .ref sc, .int ss, .int (u.1), .int (u.2.1), .int (u.2.2.1), .ref rd, .ref nw, .ref tr, .ref di, .int ac, .ref kp, .ref ik])), (sc, .inl (tc 0, 120, .inl scr)), (rd, .inl (tc 0, 357, .inl (u.2.2.2)))])) rfl (by decide) rfl (Nat.le_of_ble_eq_true rfl) ?_
  intro p e s m args below meth c A Q hx hb hml hown hts hK hE hP hD hS hA hin hret ls hl
  have hl : lv_has ls 2 [(0, .ref mo)] := hl
  refine lv_aload_n hx hb dX8_readCommand_0 rfl (lv_at hl 0 rfl) ?_
  refine lv_bipush (v := 115) hx hb dX8_readCommand_1 (by decide) ?_
  refine fc_goi (isC := [0, 1]) (isR := [2]) (wc := [(mo, .inr (8, [.int rf, .ref sc, .int ss, .int sp, .int ig, .int lf, .ref rd, .ref nw, .ref tr, .ref di, .int ac, .ref kp, .ref ik])), (sc, .inl (tc 0, 120, .inl scr))]) (wr := [(rd, .inl (tc 0, 357, .inl rrow))]) hP hD hS hA rfl rfl (by decide) (by decide) (fc_runV (isC := [0, 1]) (As := [.int 115]) (rest := []) hx hb hml hown hts hK hE hP hD hS hA rfl (by decide) (c_X8_isNext l D tc mo sc rd nw tr di kp ik rf ss sp ig lf ac scr 115 _ (by have l_0 : (0 : Int32).toInt = 0 := (by decide); have l_1 : (1 : Int32).toInt = 1 := (by decide); have l_115 : (115 : Int32).toInt = 115 := (by decide); have l_2 : (2 : Int32).toInt = 2 := (by decide); have l_3 : (3 : Int32).toInt = 3 := (by decide); have l_4 : (4 : Int32).toInt = 4 := (by decide); (try simp only [fc_le, fc_lt, fc_eq]); omega) (by have l_0 : (0 : Int32).toInt = 0 := (by decide); have l_1 : (1 : Int32).toInt = 1 := (by decide); have l_115 : (115 : Int32).toInt = 115 := (by decide); have l_2 : (2 : Int32).toInt = 2 := (by decide); have l_3 : (3 : Int32).toInt = 3 := (by decide); have l_4 : (4 : Int32).toInt = 4 := (by decide); (try simp only [fc_le, fc_lt, fc_eq]); omega)) (cwV 1 hts gX8_readCommand_X8_isNext rfl rfl rfl hd_X8_isNext ⟨Nat.le_of_ble_eq_true rfl, Nat.le_of_ble_eq_true rfl⟩) (ci := 8) rfl rfl rfl rfl hl.1 rfl (Nat.le_of_ble_eq_true rfl) dX8_readCommand_3 ⟨Nat.le_of_ble_eq_true rfl, Nat.le_of_ble_eq_true rfl⟩) (fun r_1 u_1 H locs hw_1 hP hD hS => ?_)
  try dsimp only at hw_1
  have hP : va_P D vwCl [(rd, .inl (tc 0, 357, .inl rrow)), (mo, .inr (8, [.int rf, .ref sc, .int ss, .int sp, .int ig, .int lf, .ref rd, .ref nw, .ref tr, .ref di, .int ac, .ref kp, .ref ik])), (sc, .inl (tc 0, 120, .inl scr))] H := hP
  have hD : va_D A [(rd, .inl (tc 0, 357, .inl rrow)), (mo, .inr (8, [.int rf, .ref sc, .int ss, .int sp, .int ig, .int lf, .ref rd, .ref nw, .ref tr, .ref di, .int ac, .ref kp, .ref ik])), (sc, .inl (tc 0, 120, .inl scr))] := hD
  refine lv_if_eq (tgt := 16) hx hb dX8_readCommand_6 (by decide) (fun c_2 => ?_) (fun c_2 => ?_)
  · refine lv_aload_n hx hb dX8_readCommand_16 rfl (lv_at hl 0 rfl) ?_
    refine lv_bipush (v := 100) hx hb dX8_readCommand_17 (by decide) ?_
    refine fc_goi (isC := [1, 2]) (isR := [0]) (wc := [(mo, .inr (8, [.int rf, .ref sc, .int ss, .int sp, .int ig, .int lf, .ref rd, .ref nw, .ref tr, .ref di, .int ac, .ref kp, .ref ik])), (sc, .inl (tc 0, 120, .inl scr))]) (wr := [(rd, .inl (tc 0, 357, .inl rrow))]) hP hD hS hA rfl rfl (by decide) (by decide) (fc_runV (isC := [1, 2]) (As := [.int 100]) (rest := []) hx hb hml hown hts hK hE hP hD hS hA rfl (by decide) (c_X8_isNext l D tc mo sc rd nw tr di kp ik rf ss sp ig lf ac scr 100 _ (by have l_0 : (0 : Int32).toInt = 0 := (by decide); have l_1 : (1 : Int32).toInt = 1 := (by decide); have l_100 : (100 : Int32).toInt = 100 := (by decide); have l_2 : (2 : Int32).toInt = 2 := (by decide); have l_3 : (3 : Int32).toInt = 3 := (by decide); have l_4 : (4 : Int32).toInt = 4 := (by decide); have qc_2 := c_2; (try simp only [fc_le, fc_lt, fc_eq] at qc_2); (try simp only [fc_le, fc_lt, fc_eq]); omega) (by have l_0 : (0 : Int32).toInt = 0 := (by decide); have l_1 : (1 : Int32).toInt = 1 := (by decide); have l_100 : (100 : Int32).toInt = 100 := (by decide); have l_2 : (2 : Int32).toInt = 2 := (by decide); have l_3 : (3 : Int32).toInt = 3 := (by decide); have l_4 : (4 : Int32).toInt = 4 := (by decide); have qc_2 := c_2; (try simp only [fc_le, fc_lt, fc_eq] at qc_2); (try simp only [fc_le, fc_lt, fc_eq]); omega)) (cwV 1 hts gX8_readCommand_X8_isNext rfl rfl rfl hd_X8_isNext ⟨Nat.le_of_ble_eq_true rfl, Nat.le_of_ble_eq_true rfl⟩) (ci := 8) rfl rfl rfl rfl hl.1 rfl (Nat.le_of_ble_eq_true rfl) dX8_readCommand_19 ⟨Nat.le_of_ble_eq_true rfl, Nat.le_of_ble_eq_true rfl⟩) (fun r_3 u_3 H locs hw_3 hP hD hS => ?_)
    try dsimp only at hw_3
    have hP : va_P D vwCl [(rd, .inl (tc 0, 357, .inl rrow)), (mo, .inr (8, [.int rf, .ref sc, .int ss, .int sp, .int ig, .int lf, .ref rd, .ref nw, .ref tr, .ref di, .int ac, .ref kp, .ref ik])), (sc, .inl (tc 0, 120, .inl scr))] H := hP
    have hD : va_D A [(rd, .inl (tc 0, 357, .inl rrow)), (mo, .inr (8, [.int rf, .ref sc, .int ss, .int sp, .int ig, .int lf, .ref rd, .ref nw, .ref tr, .ref di, .int ac, .ref kp, .ref ik])), (sc, .inl (tc 0, 120, .inl scr))] := hD
    refine lv_if_eq (tgt := 32) hx hb dX8_readCommand_22 (by decide) (fun c_4 => ?_) (fun c_4 => ?_)
    · refine lv_aload_n hx hb dX8_readCommand_32 rfl (lv_at hl 0 rfl) ?_
      refine lv_aload_n hx hb dX8_readCommand_33 rfl (lv_at hl 0 rfl) ?_
      refine lv_bipush (v := 110) hx hb dX8_readCommand_34 (by decide) ?_
      refine fc_goi (isC := [1, 2]) (isR := [0]) (wc := [(mo, .inr (8, [.int rf, .ref sc, .int ss, .int sp, .int ig, .int lf, .ref rd, .ref nw, .ref tr, .ref di, .int ac, .ref kp, .ref ik])), (sc, .inl (tc 0, 120, .inl scr))]) (wr := [(rd, .inl (tc 0, 357, .inl rrow))]) hP hD hS hA rfl rfl (by decide) (by decide) (fc_runV (isC := [1, 2]) (As := [.int 110]) (rest := [.ref mo]) hx hb hml hown hts hK hE hP hD hS hA rfl (by decide) (c_X8_isNext l D tc mo sc rd nw tr di kp ik rf ss sp ig lf ac scr 110 _ (by have l_0 : (0 : Int32).toInt = 0 := (by decide); have l_1 : (1 : Int32).toInt = 1 := (by decide); have l_110 : (110 : Int32).toInt = 110 := (by decide); have l_2 : (2 : Int32).toInt = 2 := (by decide); have l_3 : (3 : Int32).toInt = 3 := (by decide); have l_4 : (4 : Int32).toInt = 4 := (by decide); have qc_2 := c_2; (try simp only [fc_le, fc_lt, fc_eq] at qc_2); have qc_4 := c_4; (try simp only [fc_le, fc_lt, fc_eq] at qc_4); (try simp only [fc_le, fc_lt, fc_eq]); omega) (by have l_0 : (0 : Int32).toInt = 0 := (by decide); have l_1 : (1 : Int32).toInt = 1 := (by decide); have l_110 : (110 : Int32).toInt = 110 := (by decide); have l_2 : (2 : Int32).toInt = 2 := (by decide); have l_3 : (3 : Int32).toInt = 3 := (by decide); have l_4 : (4 : Int32).toInt = 4 := (by decide); have qc_2 := c_2; (try simp only [fc_le, fc_lt, fc_eq] at qc_2); have qc_4 := c_4; (try simp only [fc_le, fc_lt, fc_eq] at qc_4); (try simp only [fc_le, fc_lt, fc_eq]); omega)) (cwV 1 hts gX8_readCommand_X8_isNext rfl rfl rfl hd_X8_isNext ⟨Nat.le_of_ble_eq_true rfl, Nat.le_of_ble_eq_true rfl⟩) (ci := 8) rfl rfl rfl rfl hl.1 rfl (Nat.le_of_ble_eq_true rfl) dX8_readCommand_36 ⟨Nat.le_of_ble_eq_true rfl, Nat.le_of_ble_eq_true rfl⟩) (fun r_5 u_5 H locs hw_5 hP hD hS => ?_)
      try dsimp only at hw_5
      have hP : va_P D vwCl [(rd, .inl (tc 0, 357, .inl rrow)), (mo, .inr (8, [.int rf, .ref sc, .int ss, .int sp, .int ig, .int lf, .ref rd, .ref nw, .ref tr, .ref di, .int ac, .ref kp, .ref ik])), (sc, .inl (tc 0, 120, .inl scr))] H := hP
      have hD : va_D A [(rd, .inl (tc 0, 357, .inl rrow)), (mo, .inr (8, [.int rf, .ref sc, .int ss, .int sp, .int ig, .int lf, .ref rd, .ref nw, .ref tr, .ref di, .int ac, .ref kp, .ref ik])), (sc, .inl (tc 0, 120, .inl scr))] := hD
      refine fc_gov (isC := [1]) (isR := [0, 2]) (wc := [(mo, .inr (8, [.int rf, .ref sc, .int ss, .int sp, .int ig, .int lf, .ref rd, .ref nw, .ref tr, .ref di, .int ac, .ref kp, .ref ik]))]) (wr := [(rd, .inl (tc 0, 357, .inl rrow)), (sc, .inl (tc 0, 120, .inl scr))]) hP hD hS hA rfl rfl (by decide) (by decide) (fc_runV (isC := [1]) (As := [.int r_5]) (rest := []) hx hb hml hown hts hK hE hP hD hS hA rfl (by decide) (c_X8_accept l D tc mo sc rd nw tr di kp ik rf ss sp ig lf ac r_5 _ ) (cwV 1 hts gX8_readCommand_X8_accept rfl rfl rfl hd_X8_accept ⟨Nat.le_of_ble_eq_true rfl, Nat.le_of_ble_eq_true rfl⟩) (ci := 8) rfl rfl rfl rfl hl.1 rfl (Nat.le_of_ble_eq_true rfl) dX8_readCommand_39 ⟨Nat.le_of_ble_eq_true rfl, Nat.le_of_ble_eq_true rfl⟩) (fun u_6 H locs hw_6 hP hD hS => ?_)
      obtain ⟨sp_6, ig_6⟩ := u_6
      try dsimp only at hw_6
      have hP : va_P D vwCl [(rd, .inl (tc 0, 357, .inl rrow)), (sc, .inl (tc 0, 120, .inl scr)), (mo, .inr (8, [.int rf, .ref sc, .int ss, .int sp_6, .int ig_6, .int lf, .ref rd, .ref nw, .ref tr, .ref di, .int ac, .ref kp, .ref ik]))] H := hP
      have hD : va_D A [(rd, .inl (tc 0, 357, .inl rrow)), (sc, .inl (tc 0, 120, .inl scr)), (mo, .inr (8, [.int rf, .ref sc, .int ss, .int sp_6, .int ig_6, .int lf, .ref rd, .ref nw, .ref tr, .ref di, .int ac, .ref kp, .ref ik]))] := hD
      have hf_6 := fr_accept hw_6 (by omega)
      refine lv_aload_n hx hb dX8_readCommand_42 rfl (lv_at hl 0 rfl) ?_
      refine lv_iconst (v := 1) hx hb dX8_readCommand_43 (by decide) ?_
      refine lv_bipush (v := 9) hx hb dX8_readCommand_44 (by decide) ?_
      refine fc_goi (isC := [2, 1]) (isR := [0]) (wc := [(mo, .inr (8, [.int rf, .ref sc, .int ss, .int sp_6, .int ig_6, .int lf, .ref rd, .ref nw, .ref tr, .ref di, .int ac, .ref kp, .ref ik])), (sc, .inl (tc 0, 120, .inl scr))]) (wr := [(rd, .inl (tc 0, 357, .inl rrow))]) hP hD hS hA rfl rfl (by decide) (by decide) (fc_runV (isC := [2, 1]) (As := [.int 1, .int 9]) (rest := []) hx hb hml hown hts hK hE hP hD hS hA rfl (by decide) (c_X8_digit l D tc mo sc rd nw tr di kp ik rf ss sp_6 ig_6 lf ac scr 1 9 _ (by have l_0 : (0 : Int32).toInt = 0 := (by decide); have l_1 : (1 : Int32).toInt = 1 := (by decide); have l_2 : (2 : Int32).toInt = 2 := (by decide); have l_3 : (3 : Int32).toInt = 3 := (by decide); have l_4 : (4 : Int32).toInt = 4 := (by decide); have l_9 : (9 : Int32).toInt = 9 := (by decide); have qc_2 := c_2; (try simp only [fc_le, fc_lt, fc_eq] at qc_2); have qc_4 := c_4; (try simp only [fc_le, fc_lt, fc_eq] at qc_4); (try simp only [fc_le, fc_lt, fc_eq]); omega) (by have l_0 : (0 : Int32).toInt = 0 := (by decide); have l_1 : (1 : Int32).toInt = 1 := (by decide); have l_2 : (2 : Int32).toInt = 2 := (by decide); have l_3 : (3 : Int32).toInt = 3 := (by decide); have l_4 : (4 : Int32).toInt = 4 := (by decide); have l_9 : (9 : Int32).toInt = 9 := (by decide); have qc_2 := c_2; (try simp only [fc_le, fc_lt, fc_eq] at qc_2); have qc_4 := c_4; (try simp only [fc_le, fc_lt, fc_eq] at qc_4); (try simp only [fc_le, fc_lt, fc_eq]); omega)) (cwV 2 hts gX8_readCommand_X8_digit rfl rfl rfl hd_X8_digit ⟨Nat.le_of_ble_eq_true rfl, Nat.le_of_ble_eq_true rfl⟩) (ci := 8) rfl rfl rfl rfl hl.1 rfl (Nat.le_of_ble_eq_true rfl) dX8_readCommand_46 ⟨Nat.le_of_ble_eq_true rfl, Nat.le_of_ble_eq_true rfl⟩) (fun r_7 u_7 H locs hw_7 hP hD hS => ?_)
      obtain ⟨sp_7, ig_7⟩ := u_7
      try dsimp only at hw_7
      have hP : va_P D vwCl [(rd, .inl (tc 0, 357, .inl rrow)), (mo, .inr (8, [.int rf, .ref sc, .int ss, .int sp_7, .int ig_7, .int lf, .ref rd, .ref nw, .ref tr, .ref di, .int ac, .ref kp, .ref ik])), (sc, .inl (tc 0, 120, .inl scr))] H := hP
      have hD : va_D A [(rd, .inl (tc 0, 357, .inl rrow)), (mo, .inr (8, [.int rf, .ref sc, .int ss, .int sp_7, .int ig_7, .int lf, .ref rd, .ref nw, .ref tr, .ref di, .int ac, .ref kp, .ref ik])), (sc, .inl (tc 0, 120, .inl scr))] := hD
      have hf_7 := fr_digit hw_7 (by omega)
      have hg_7 := fr_digit19 hw_7
      refine lv_istore_n (lv' := [(1, .int r_7), (0, .ref mo)]) hx hb dX8_readCommand_49 rfl hl (by decide) rfl (fun ls hl => ?_)
      refine lv_aload_n hx hb dX8_readCommand_50 rfl (lv_at hl 1 rfl) ?_
      refine va_get (D := D) (ci := 8) (v := .ref rd) (C := RX8) (T := TX8) (N := 13) hx hb hts iX8_readCommand_X8 hown hK hP 1 rfl rfl 6 (by decide) (hts (.fieldLink RX8 13 "FrameCardModel" "read" "[I") (by decide +kernel)) (fun _ h9 => h9) rfl dX8_readCommand_51 ?_
      refine lv_aload_n hx hb dX8_readCommand_54 rfl (lv_at hl 1 rfl) ?_
      refine va_get (D := D) (ci := 8) (v := .int ig_7) (C := RX8) (T := TX8) (N := 13) hx hb hts iX8_readCommand_X8 hown hK hP 1 rfl rfl 4 (by decide) (hts (.fieldLink RX8 110 "FrameCardModel" "isGood" "Z") (by decide +kernel)) (fun _ h9 => h9) rfl dX8_readCommand_55 ?_
      refine lv_if_eq (tgt := 65) hx hb dX8_readCommand_58 (by decide) (fun c_8 => ?_) (fun c_8 => ?_)
      · refine lv_iconst (v := 0) hx hb dX8_readCommand_65 (by decide) ?_
        refine fc_goi (isC := [0]) (isR := [1, 2]) (wc := [(rd, .inl (tc 0, 357, .inl rrow))]) (wr := [(mo, .inr (8, [.int rf, .ref sc, .int ss, .int sp_7, .int ig_7, .int lf, .ref rd, .ref nw, .ref tr, .ref di, .int ac, .ref kp, .ref ik])), (sc, .inl (tc 0, 120, .inl scr))]) hP hD hS hA rfl rfl (by decide) (by decide) (fc_runS (isC := [0]) (As := [.ref rd, .int 0]) (rest := []) hx hb hml hown hts hK hE hP hD hS hA rfl (by decide) (c_X8_ticksIn l D tc rd rrow 0 _ (by first | omega | decide) (hR.mono (by omega))) (cwS 2 hts gX8_readCommand_X8_ticksIn rfl rfl rfl hd_X8_ticksIn ⟨Nat.le_of_ble_eq_true rfl, Nat.le_of_ble_eq_true rfl⟩) rfl hl.1 rfl (Nat.le_of_ble_eq_true rfl) dX8_readCommand_66 ⟨Nat.le_of_ble_eq_true rfl, Nat.le_of_ble_eq_true rfl⟩) (fun r_9 u_9 H locs hw_9 hP hD hS => ?_)
        obtain ⟨row_9, rfl⟩ : ∃ z, z = u_9 := ⟨_, rfl⟩
        try dsimp only at hw_9
        have hP : va_P D vwCl [(mo, .inr (8, [.int rf, .ref sc, .int ss, .int sp_7, .int ig_7, .int lf, .ref rd, .ref nw, .ref tr, .ref di, .int ac, .ref kp, .ref ik])), (sc, .inl (tc 0, 120, .inl scr)), (rd, .inl (tc 0, 357, .inl row_9))] H := hP
        have hD : va_D A [(mo, .inr (8, [.int rf, .ref sc, .int ss, .int sp_7, .int ig_7, .int lf, .ref rd, .ref nw, .ref tr, .ref di, .int ac, .ref kp, .ref ik])), (sc, .inl (tc 0, 120, .inl scr)), (rd, .inl (tc 0, 357, .inl row_9))] := hD
        refine lv_pop hx hb dX8_readCommand_69 rfl ?_
        exact hret _ _ (sp_7, ig_7, lf, row_9) _ _ (by rw [mX8_readCommand]; rw [hw_1]; (try dsimp only); rw [if_pos c_2]; rw [hw_3]; (try dsimp only); rw [if_pos c_4]; rw [hw_5]; (try dsimp only); rw [hw_6]; rw [mX8_readCommand_C6]; (try dsimp only); rw [hw_7]; rw [mX8_readCommand_C7]; (try dsimp only); rw [if_pos c_8]; rw [hw_9]; rw [mX8_readCommand_C9]; (try dsimp only); (first | done | rfl)) (hP.sub [0, 1, 2] rfl) (hD.sub [0, 1, 2] (by decide) rfl) hS dX8_readCommand_70
      · refine lv_iload_n hx hb dX8_readCommand_61 rfl (lv_at hl 0 rfl) ?_
        refine lv_goto (tgt := 66) hx hb dX8_readCommand_62 (by decide) ?_
        refine fc_goi (isC := [0]) (isR := [1, 2]) (wc := [(rd, .inl (tc 0, 357, .inl rrow))]) (wr := [(mo, .inr (8, [.int rf, .ref sc, .int ss, .int sp_7, .int ig_7, .int lf, .ref rd, .ref nw, .ref tr, .ref di, .int ac, .ref kp, .ref ik])), (sc, .inl (tc 0, 120, .inl scr))]) hP hD hS hA rfl rfl (by decide) (by decide) (fc_runS (isC := [0]) (As := [.ref rd, .int r_7]) (rest := []) hx hb hml hown hts hK hE hP hD hS hA rfl (by decide) (c_X8_ticksIn l D tc rd rrow r_7 _ (by first | omega | decide) (hR.mono (by omega))) (cwS 2 hts gX8_readCommand_X8_ticksIn rfl rfl rfl hd_X8_ticksIn ⟨Nat.le_of_ble_eq_true rfl, Nat.le_of_ble_eq_true rfl⟩) rfl hl.1 rfl (Nat.le_of_ble_eq_true rfl) dX8_readCommand_66 ⟨Nat.le_of_ble_eq_true rfl, Nat.le_of_ble_eq_true rfl⟩) (fun r_10 u_10 H locs hw_10 hP hD hS => ?_)
        obtain ⟨row_10, rfl⟩ : ∃ z, z = u_10 := ⟨_, rfl⟩
        try dsimp only at hw_10
        have hP : va_P D vwCl [(mo, .inr (8, [.int rf, .ref sc, .int ss, .int sp_7, .int ig_7, .int lf, .ref rd, .ref nw, .ref tr, .ref di, .int ac, .ref kp, .ref ik])), (sc, .inl (tc 0, 120, .inl scr)), (rd, .inl (tc 0, 357, .inl row_10))] H := hP
        have hD : va_D A [(mo, .inr (8, [.int rf, .ref sc, .int ss, .int sp_7, .int ig_7, .int lf, .ref rd, .ref nw, .ref tr, .ref di, .int ac, .ref kp, .ref ik])), (sc, .inl (tc 0, 120, .inl scr)), (rd, .inl (tc 0, 357, .inl row_10))] := hD
        refine lv_pop hx hb dX8_readCommand_69 rfl ?_
        exact hret _ _ (sp_7, ig_7, lf, row_10) _ _ (by rw [mX8_readCommand]; rw [hw_1]; (try dsimp only); rw [if_pos c_2]; rw [hw_3]; (try dsimp only); rw [if_pos c_4]; rw [hw_5]; (try dsimp only); rw [hw_6]; rw [mX8_readCommand_C6]; (try dsimp only); rw [hw_7]; rw [mX8_readCommand_C7]; (try dsimp only); rw [if_neg c_8]; rw [hw_10]; rw [mX8_readCommand_C10]; (try dsimp only); (first | done | rfl)) (hP.sub [0, 1, 2] rfl) (hD.sub [0, 1, 2] (by decide) rfl) hS dX8_readCommand_70
    · refine lv_aload_n hx hb dX8_readCommand_25 rfl (lv_at hl 0 rfl) ?_
      refine fc_gov (isC := [1, 2, 0]) (isR := []) (wc := [(mo, .inr (8, [.int rf, .ref sc, .int ss, .int sp, .int ig, .int lf, .ref rd, .ref nw, .ref tr, .ref di, .int ac, .ref kp, .ref ik])), (sc, .inl (tc 0, 120, .inl scr)), (rd, .inl (tc 0, 357, .inl rrow))]) (wr := []) hP hD hS hA rfl rfl (by decide) (by decide) (fc_runV (isC := [1, 2, 0]) (As := []) (rest := []) hx hb hml hown hts hK hE hP hD hS hA rfl (by decide) (c_X8_readDrop l D tc mo sc rd nw tr di kp ik rf ss sp ig lf ac scr rrow _ hsp hss (hR.mono (by omega))) (cwV 0 hts gX8_readCommand_X8_readDrop rfl rfl rfl hd_X8_readDrop ⟨Nat.le_of_ble_eq_true rfl, Nat.le_of_ble_eq_true rfl⟩) (ci := 8) rfl rfl rfl rfl hl.1 rfl (Nat.le_of_ble_eq_true rfl) dX8_readCommand_26 ⟨Nat.le_of_ble_eq_true rfl, Nat.le_of_ble_eq_true rfl⟩) (fun u_11 H locs hw_11 hP hD hS => ?_)
      obtain ⟨sp_11, ig_11, lf_11, rrow_11⟩ := u_11
      try dsimp only at hw_11
      have hP : va_P D vwCl [(mo, .inr (8, [.int rf, .ref sc, .int ss, .int sp_11, .int ig_11, .int lf_11, .ref rd, .ref nw, .ref tr, .ref di, .int ac, .ref kp, .ref ik])), (sc, .inl (tc 0, 120, .inl scr)), (rd, .inl (tc 0, 357, .inl rrow_11))] H := hP
      have hD : va_D A [(mo, .inr (8, [.int rf, .ref sc, .int ss, .int sp_11, .int ig_11, .int lf_11, .ref rd, .ref nw, .ref tr, .ref di, .int ac, .ref kp, .ref ik])), (sc, .inl (tc 0, 120, .inl scr)), (rd, .inl (tc 0, 357, .inl rrow_11))] := hD
      refine lv_goto (tgt := 70) hx hb dX8_readCommand_29 (by decide) ?_
      exact hret _ _ (sp_11, ig_11, lf_11, rrow_11) _ _ (by rw [mX8_readCommand]; rw [hw_1]; (try dsimp only); rw [if_pos c_2]; rw [hw_3]; (try dsimp only); rw [if_neg c_4]; rw [hw_11]; rw [mX8_readCommand_C11]; (try dsimp only); (first | done | rfl)) (hP.sub [0, 1, 2] rfl) (hD.sub [0, 1, 2] (by decide) rfl) hS dX8_readCommand_70
  · refine lv_aload_n hx hb dX8_readCommand_9 rfl (lv_at hl 0 rfl) ?_
    refine fc_gov (isC := [1, 2, 0]) (isR := []) (wc := [(mo, .inr (8, [.int rf, .ref sc, .int ss, .int sp, .int ig, .int lf, .ref rd, .ref nw, .ref tr, .ref di, .int ac, .ref kp, .ref ik])), (sc, .inl (tc 0, 120, .inl scr)), (rd, .inl (tc 0, 357, .inl rrow))]) (wr := []) hP hD hS hA rfl rfl (by decide) (by decide) (fc_runV (isC := [1, 2, 0]) (As := []) (rest := []) hx hb hml hown hts hK hE hP hD hS hA rfl (by decide) (c_X8_readPicture l D tc mo sc rd nw tr di kp ik rf ss sp ig lf ac scr rrow _ hsp hss (hR.mono (by omega))) (cwV 0 hts gX8_readCommand_X8_readPicture rfl rfl rfl hd_X8_readPicture ⟨Nat.le_of_ble_eq_true rfl, Nat.le_of_ble_eq_true rfl⟩) (ci := 8) rfl rfl rfl rfl hl.1 rfl (Nat.le_of_ble_eq_true rfl) dX8_readCommand_10 ⟨Nat.le_of_ble_eq_true rfl, Nat.le_of_ble_eq_true rfl⟩) (fun u_12 H locs hw_12 hP hD hS => ?_)
    obtain ⟨sp_12, ig_12, rrow_12⟩ := u_12
    try dsimp only at hw_12
    have hP : va_P D vwCl [(mo, .inr (8, [.int rf, .ref sc, .int ss, .int sp_12, .int ig_12, .int lf, .ref rd, .ref nw, .ref tr, .ref di, .int ac, .ref kp, .ref ik])), (sc, .inl (tc 0, 120, .inl scr)), (rd, .inl (tc 0, 357, .inl rrow_12))] H := hP
    have hD : va_D A [(mo, .inr (8, [.int rf, .ref sc, .int ss, .int sp_12, .int ig_12, .int lf, .ref rd, .ref nw, .ref tr, .ref di, .int ac, .ref kp, .ref ik])), (sc, .inl (tc 0, 120, .inl scr)), (rd, .inl (tc 0, 357, .inl rrow_12))] := hD
    refine lv_goto (tgt := 70) hx hb dX8_readCommand_13 (by decide) ?_
    exact hret _ _ (sp_12, ig_12, lf, rrow_12) _ _ (by rw [mX8_readCommand]; rw [hw_1]; (try dsimp only); rw [if_neg c_2]; rw [hw_12]; rw [mX8_readCommand_C12]; (try dsimp only); (first | done | rfl)) (hP.sub [0, 1, 2] rfl) (hD.sub [0, 1, 2] (by decide) rfl) hS dX8_readCommand_70
theorem fr_readCommandM {rf ss sp ig lf ac : Int32} {scr rrow rrow' : Nat → Int32} {sp' ig' lf' : Int32} (h : mX8_readCommand rf ss sp ig lf ac scr rrow = (sp', ig', lf', rrow')) (hs : 0 ≤ sp.toInt ∧ sp.toInt ≤ 10000) : (∃ n : Int, 1 ≤ n ∧ n ≤ 7 ∧ pMove sp ig sp' ig' n) ∧ ∀ m, RXn (m + 51) rrow → RXn m rrow' := by
  rw [mX8_readCommand] at h
  dsimp only at h
  by_cases c1 : mX8_isNext rf ss sp ig lf ac scr 115 = 0
  · rw [if_pos c1] at h
    by_cases c2 : mX8_isNext rf ss sp ig lf ac scr 100 = 0
    · rw [if_pos c2] at h
      generalize e1 : mX8_accept rf ss sp ig lf ac (mX8_isNext rf ss sp ig lf ac scr 110) = z1 at h
      have m1 := fr_acceptM (sp' := z1.1) (ig' := z1.2) e1 (by omega)
      rw [mX8_readCommand_C6] at h
      generalize e2 : mX8_digit rf ss z1.1 z1.2 lf ac scr 1 9 = z2 at h
      have m2 := m1.trans (fr_digitM (r := z2.1) (sp' := z2.2.1) (ig' := z2.2.2) e2 (by unfold pMove at m1; omega))
      have g2 := fr_digit19 (r := z2.1) (sp' := z2.2.1) (ig' := z2.2.2) e2
      rw [mX8_readCommand_C7] at h
      by_cases hc : z2.2.2 = 0
      · rw [if_pos hc] at h
        generalize e8 : mX8_ticksIn rrow 0 = z8 at h
        rw [mX8_readCommand_C9] at h
        obtain ⟨q1, q2⟩ := Prod.mk.inj h
        obtain ⟨q3, q4⟩ := Prod.mk.inj q2
        obtain ⟨q5, q6⟩ := Prod.mk.inj q4
        subst q1 q3 q5 q6
        exact ⟨⟨2, by omega, by omega, m2⟩, fun m hm => RX_ticks (r := z8.1) (row' := z8.2) hm (by decide) e8⟩
      · rw [if_neg hc] at h
        generalize e8 : mX8_ticksIn rrow z2.1 = z8 at h
        rw [mX8_readCommand_C10] at h
        obtain ⟨q1, q2⟩ := Prod.mk.inj h
        obtain ⟨q3, q4⟩ := Prod.mk.inj q2
        obtain ⟨q5, q6⟩ := Prod.mk.inj q4
        subst q1 q3 q5 q6
        exact ⟨⟨2, by omega, by omega, m2⟩, fun m hm => RX_ticks (r := z8.1) (row' := z8.2) hm (by omega) e8⟩
    · rw [if_neg c2] at h
      generalize e1 : mX8_readDrop rf ss sp ig lf ac scr rrow = z1 at h
      rw [mX8_readCommand_C11] at h
      obtain ⟨q1, q2⟩ := Prod.mk.inj h
      obtain ⟨q3, q4⟩ := Prod.mk.inj q2
      obtain ⟨q5, q6⟩ := Prod.mk.inj q4
      subst q1 q3 q5 q6
      obtain ⟨m2, g2⟩ := fr_readDrop (sp' := z1.1) (ig' := z1.2.1) (lf' := z1.2.2.1) (rrow' := z1.2.2.2) e1 hs
      exact ⟨⟨3, by omega, by omega, m2⟩, fun m hm => g2 m (hm.mono (by omega))⟩
  · rw [if_neg c1] at h
    generalize e1 : mX8_readPicture rf ss sp ig lf ac scr rrow = z1 at h
    rw [mX8_readCommand_C12] at h
    obtain ⟨q1, q2⟩ := Prod.mk.inj h
    obtain ⟨q3, q4⟩ := Prod.mk.inj q2
    obtain ⟨q5, q6⟩ := Prod.mk.inj q4
    subst q1 q3 q5 q6
    obtain ⟨m2, g2⟩ := fr_readPicture (sp' := z1.1) (ig' := z1.2.1) (rrow' := z1.2.2) e1 hs
    exact ⟨⟨7, by omega, by omega, m2⟩, fun m hm => g2 m (hm.mono (by omega))⟩
theorem fr_readCommand {rf ss sp ig lf ac : Int32} {scr rrow rrow' : Nat → Int32} {sp' ig' lf' : Int32} (h : mX8_readCommand rf ss sp ig lf ac scr rrow = (sp', ig', lf', rrow')) (hs : 0 ≤ sp.toInt ∧ sp.toInt ≤ 10000) : (sp.toInt ≤ sp'.toInt ∧ sp'.toInt ≤ sp.toInt + 7) ∧ (ig'.toInt = 0 ∨ sp.toInt + 1 ≤ sp'.toInt) := by
  obtain ⟨⟨n, n1, n7, hm⟩, -⟩ := fr_readCommandM h hs
  unfold pMove at hm
  omega
theorem fr_readCommandX {rf ss sp ig lf ac : Int32} {scr rrow rrow' : Nat → Int32} {sp' ig' lf' : Int32} {k : Nat} (h : mX8_readCommand rf ss sp ig lf ac scr rrow = (sp', ig', lf', rrow')) (hx : RXn (60 * k + 51) rrow) (hs : 0 ≤ sp.toInt ∧ sp.toInt ≤ 10000) : RXn (60 * k) rrow' :=
  (fr_readCommandM h hs).2 _ hx
theorem fx_cleanX {row row' : Nat → Int32} {p1 p2 p3 p4 : Int32} (h : mX8_clean row p1 p2 p3 p4 = row') (h1 : 8 ≤ p1.toInt ∧ p1.toInt ≤ 48) (h2 : 0 ≤ p2.toInt ∧ p2.toInt ≤ 8) : RXn 7320 row' := by
  obtain ⟨e1, q1, z1⟩ := fx_nn (x := p1) (by omega)
  obtain ⟨e2, q2, z2⟩ := fx_nn (x := p2) (by omega)
  rw [r_clean] at h
  have hn := R_new (C := p1.toNatClampNeg) (p := p2.toNatClampNeg) (set := fun j => if j = 0 then p2 else if j = 1 then p3 else p4) (h0 := row) (kc := row) (qc := row) (told := row) (row := row) (p2 := p2) (p3 := p3) (p4 := p4) (by omega) (by omega) e2 ⟨rfl, rfl, rfl⟩
  rw [← e1, h] at hn
  exact ⟨0, 0, 0, _, 0, by omega, _, _, _, _, _, _, _, _, _, _, _, _, _, _, _, _, _, _, _, _, _, _, hn⟩
--# X8_readText
theorem hd_X8_clean : yX8_clean.cls = RX8 ∧ yX8_clean.cls ≠ "java/lang/invoke/MethodHandle" ∧ yX8_clean.cls ≠ "java/lang/invoke/VarHandle" ∧ (parseMethodDescriptor yX8_clean.desc).map (fun d => d.parameters.length) = some 5 := by decide +kernel
theorem hd_X8_cleann : yX8_clean.cls ≠ "java/lang/invoke/MethodHandle" ∧ yX8_clean.cls ≠ "java/lang/invoke/VarHandle" ∧ (parseMethodDescriptor yX8_clean.desc).map (fun d => d.parameters.length) = some 5 := by decide +kernel
theorem hd_X8_readCommand : yX8_readCommand.cls = RX8 ∧ yX8_readCommand.cls ≠ "java/lang/invoke/MethodHandle" ∧ yX8_readCommand.cls ≠ "java/lang/invoke/VarHandle" ∧ (parseMethodDescriptor yX8_readCommand.desc).map (fun d => d.parameters.length) = some 0 := by decide +kernel
theorem hd_X8_readCommandn : yX8_readCommand.cls ≠ "java/lang/invoke/MethodHandle" ∧ yX8_readCommand.cls ≠ "java/lang/invoke/VarHandle" ∧ (parseMethodDescriptor yX8_readCommand.desc).map (fun d => d.parameters.length) = some 0 := by decide +kernel
noncomputable def mX8_readText_C12 (ih_67 : Int32 → Int32 → Int32 → (Nat → Int32) → Int32 × Int32 × Int32 × Int32 × (Nat → Int32)) (z_12 : Int32 × Int32 × Int32 × (Nat → Int32)) : Int32 × Int32 × Int32 × Int32 × (Nat → Int32) :=
  ih_67 (z_12.1) (z_12.2.1) (z_12.2.2.1) (z_12.2.2.2)
noncomputable def mX8_readText_S67 (rf : Int32) (ss : Int32) (ac : Int32) (scr : Nat → Int32) (r_3 : Int32) (r_4 : Int32) (r_5 : Int32) (ih_67 : Int32 → Int32 → Int32 → (Nat → Int32) → Int32 × Int32 × Int32 × Int32 × (Nat → Int32)) (sph67 : Int32) (igh67 : Int32) (lfh67 : Int32) (rrowh67 : Nat → Int32) : Int32 × Int32 × Int32 × Int32 × (Nat → Int32) :=
  if igh67 = 0 then
    (sph67, sph67, igh67, lfh67, rrowh67)
  else
    if ss ≤ sph67 then
      ((-1), sph67, igh67, lfh67, rrowh67)
    else
      mX8_readText_C12 ih_67 (mX8_readCommand rf ss sph67 igh67 lfh67 ac scr rrowh67)
noncomputable def mX8_readText_L67 (rf : Int32) (ss : Int32) (ac : Int32) (scr : Nat → Int32) (r_3 : Int32) (r_4 : Int32) (r_5 : Int32) (k : Nat) : Int32 → Int32 → Int32 → (Nat → Int32) → Int32 × Int32 × Int32 × Int32 × (Nat → Int32) := Nat.rec (motive := fun _ => Int32 → Int32 → Int32 → (Nat → Int32) → Int32 × Int32 × Int32 × Int32 × (Nat → Int32)) (fun sph67 igh67 lfh67 rrowh67 => (0, sph67, igh67, lfh67, rrowh67)) (fun _ ih => mX8_readText_S67 rf ss ac scr r_3 r_4 r_5 ih) k
theorem mX8_readText_L67_z (rf : Int32) (ss : Int32) (ac : Int32) (scr : Nat → Int32) (r_3 : Int32) (r_4 : Int32) (r_5 : Int32) (sph67 : Int32) (igh67 : Int32) (lfh67 : Int32) (rrowh67 : Nat → Int32) : mX8_readText_L67 rf ss ac scr r_3 r_4 r_5 0 sph67 igh67 lfh67 rrowh67 = (0, sph67, igh67, lfh67, rrowh67) := rfl
theorem mX8_readText_L67_s (rf : Int32) (ss : Int32) (ac : Int32) (scr : Nat → Int32) (r_3 : Int32) (r_4 : Int32) (r_5 : Int32) (k : Nat) (sph67 : Int32) (igh67 : Int32) (lfh67 : Int32) (rrowh67 : Nat → Int32) : mX8_readText_L67 rf ss ac scr r_3 r_4 r_5 (k + 1) sph67 igh67 lfh67 rrowh67 = mX8_readText_S67 rf ss ac scr r_3 r_4 r_5 (mX8_readText_L67 rf ss ac scr r_3 r_4 r_5 k) sph67 igh67 lfh67 rrowh67 := rfl
noncomputable def mX8_readText_C6 (rf : Int32) (ss : Int32) (ac : Int32) (scr : Nat → Int32) (rrow : Nat → Int32) (r_3 : Int32) (r_4 : Int32) (r_5 : Int32) (z_6 : Int32 × Int32 × Int32) : Int32 × Int32 × Int32 × Int32 × (Nat → Int32) :=
  let row_7 := mX8_clean rrow r_3 r_4 r_5 (z_6.1)
  mX8_readText_L67 rf ss ac scr r_3 r_4 r_5 122 (z_6.2.1) (z_6.2.2) 0 row_7
noncomputable def mX8_readText_C5 (rf : Int32) (ss : Int32) (ac : Int32) (scr : Nat → Int32) (rrow : Nat → Int32) (r_3 : Int32) (r_4 : Int32) (z_5 : Int32 × Int32 × Int32) : Int32 × Int32 × Int32 × Int32 × (Nat → Int32) :=
  mX8_readText_C6 rf ss ac scr rrow r_3 r_4 (z_5.1) (mX8_two rf ss (z_5.2.1) (z_5.2.2) 0 ac scr 1 20)
noncomputable def mX8_readText_C4 (rf : Int32) (ss : Int32) (ac : Int32) (scr : Nat → Int32) (rrow : Nat → Int32) (r_3 : Int32) (z_4 : Int32 × Int32 × Int32) : Int32 × Int32 × Int32 × Int32 × (Nat → Int32) :=
  mX8_readText_C5 rf ss ac scr rrow r_3 (z_4.1) (mX8_digit rf ss (z_4.2.1) (z_4.2.2) 0 ac scr 0 9)
noncomputable def mX8_readText_C3 (rf : Int32) (ss : Int32) (ac : Int32) (scr : Nat → Int32) (rrow : Nat → Int32) (z_3 : Int32 × Int32 × Int32) : Int32 × Int32 × Int32 × Int32 × (Nat → Int32) :=
  mX8_readText_C4 rf ss ac scr rrow (z_3.1) (mX8_digit rf ss (z_3.2.1) (z_3.2.2) 0 ac scr 0 8)
noncomputable def mX8_readText_C2 (rf : Int32) (ss : Int32) (ac : Int32) (scr : Nat → Int32) (rrow : Nat → Int32) (z_2 : Int32 × Int32) : Int32 × Int32 × Int32 × Int32 × (Nat → Int32) :=
  mX8_readText_C3 rf ss ac scr rrow (mX8_two rf ss (z_2.1) (z_2.2) 0 ac scr 8 48)
noncomputable def mX8_readText (rf : Int32) (ss : Int32) (sp : Int32) (ig : Int32) (lf : Int32) (ac : Int32) (scr : Nat → Int32) (rrow : Nat → Int32) : Int32 × Int32 × Int32 × Int32 × (Nat → Int32) :=
  let r_1 := mX8_isNext rf ss 0 1 0 ac scr 67
  mX8_readText_C2 rf ss ac scr rrow (mX8_accept rf ss 0 1 0 ac r_1)
set_option maxRecDepth 20000 in
theorem iX8_readText_X8 : ∀ w ∈ wsX80, w ∈ wsX8_readText := by decide +kernel
abbrev rmX8_readText : Room := { frames := 6, cells := 0, slots := 0, locals := 135 }
set_option maxHeartbeats 4000000 in
set_option maxRecDepth 100000 in
theorem c_X8_readText (l : Launch) (D : va_G) (tc : Nat → ClassId) (mo : Nat) (sc : Nat) (rd : Nat) (nw : Nat) (tr : Nat) (di : Nat) (kp : Nat) (ik : Nat) (rf : Int32) (ss : Int32) (sp : Int32) (ig : Int32) (lf : Int32) (ac : Int32) (scr : Nat → Int32) (rrow : Nat → Int32) (sz : Nat) (hss : 0 ≤ ss.toInt ∧ ss.toInt ≤ 120) : Met l yX8_readText wsX8_readText rmX8_readText (va_Pc [.ref mo] (fcB D tc [(mo, .inr (8, [.int rf, .ref sc, .int ss, .int sp, .int ig, .int lf, .ref rd, .ref nw, .ref tr, .ref di, .int ac, .ref kp, .ref ik])), (sc, .inl (tc 0, 120, .inl scr)), (rd, .inl (tc 0, 357, .inl rrow))] sz)) (va_Qi (fun (r : Int32) (u : Int32 × Int32 × Int32 × (Nat → Int32)) => mX8_readText rf ss sp ig lf ac scr rrow = (r, u)) (fun u t => fcO D (va_A [(mo, .inr (8, [.int rf, .ref sc, .int ss, .int sp, .int ig, .int lf, .ref rd, .ref nw, .ref tr, .ref di, .int ac, .ref kp, .ref ik])), (sc, .inl (tc 0, 120, .inl scr)), (rd, .inl (tc 0, 357, .inl rrow))] sz) ((fun (u : Int32 × Int32 × Int32 × (Nat → Int32)) => [(mo, .inr (8, [.int rf, .ref sc, .int ss, .int (u.1), .int (u.2.1), .int (u.2.2.1), .ref rd, .ref nw, .ref tr, .ref di, .int ac, .ref kp, .ref ik])), (sc, .inl (tc 0, 120, .inl scr)), (rd, .inl (tc 0, 357, .inl (u.2.2.2)))]) u) t) (va_A [(mo, .inr (8, [.int rf, .ref sc, .int ss, .int sp, .int ig, .int lf, .ref rd, .ref nw, .ref tr, .ref di, .int ac, .ref kp, .ref ik])), (sc, .inl (tc 0, 120, .inl scr)), (rd, .inl (tc 0, 357, .inl rrow))] sz)) 0 0 (va_A [(mo, .inr (8, [.int rf, .ref sc, .int ss, .int sp, .int ig, .int lf, .ref rd, .ref nw, .ref tr, .ref di, .int ac, .ref kp, .ref ik])), (sc, .inl (tc 0, 120, .inl scr)), (rd, .inl (tc 0, 357, .inl rrow))] sz) := by
  refine fc_ofWi (own := RX8) (cc := cX8_readText) (maxL := 4) (W1 := (fun (u : Int32 × Int32 × Int32 × (Nat → Int32)) => [(mo, .inr (8, [.int rf, .ref sc, .int ss, .int (u.1), .int (u.2.1), .int (u.2.2.1), .ref rd, .ref nw, .ref tr, .ref di, .int ac, .ref kp, .ref ik])), (sc, .inl (tc 0, 120, .inl scr)), (rd, .inl (tc 0, 357, .inl (u.2.2.2)))])) rfl (by decide) rfl (Nat.le_of_ble_eq_true rfl) ?_
  intro p e s m args below meth c A Q hx hb hml hown hts hK hE hP hD hS hA hin hret ls hl
  have hl : lv_has ls 4 [(0, .ref mo)] := hl
  have li0 : (0 : Int32).toInt = 0 := by decide
  refine lv_aload_n hx hb dX8_readText_0 rfl (lv_at hl 0 rfl) ?_
  refine lv_iconst (v := 0) hx hb dX8_readText_1 (by decide) ?_
  refine va_put (D := D) (ci := 8) (v := .int 0) (ty := .int) (C := RX8) (T := TX8) (N := 13) hx hb hts iX8_readText_X8 tyX8 tyX8_ok nmX8 hown hK hP hD hS 0 rfl rfl 3 (by decide) (hts (.fieldLink RX8 107 "FrameCardModel" "spot" "I") (by decide +kernel)) (fun _ h9 => h9) rfl (by decide +kernel) rfl rfl (Nat.le_of_ble_eq_true rfl) dX8_readText_2 (fun H locs hP hD hS => ?_)
  have hP : va_P D vwCl [(mo, .inr (8, [.int rf, .ref sc, .int ss, .int 0, .int ig, .int lf, .ref rd, .ref nw, .ref tr, .ref di, .int ac, .ref kp, .ref ik])), (sc, .inl (tc 0, 120, .inl scr)), (rd, .inl (tc 0, 357, .inl rrow))] H := hP
  have hD : va_D A [(mo, .inr (8, [.int rf, .ref sc, .int ss, .int 0, .int ig, .int lf, .ref rd, .ref nw, .ref tr, .ref di, .int ac, .ref kp, .ref ik])), (sc, .inl (tc 0, 120, .inl scr)), (rd, .inl (tc 0, 357, .inl rrow))] := hD
  refine lv_aload_n hx hb dX8_readText_5 rfl (lv_at hl 0 rfl) ?_
  refine lv_iconst (v := 1) hx hb dX8_readText_6 (by decide) ?_
  refine va_put (D := D) (ci := 8) (v := .int 1) (ty := .boolean) (C := RX8) (T := TX8) (N := 13) hx hb hts iX8_readText_X8 tyX8 tyX8_ok nmX8 hown hK hP hD hS 0 rfl rfl 4 (by decide) (hts (.fieldLink RX8 110 "FrameCardModel" "isGood" "Z") (by decide +kernel)) (fun _ h9 => h9) rfl (by decide +kernel) rfl rfl (Nat.le_of_ble_eq_true rfl) dX8_readText_7 (fun H locs hP hD hS => ?_)
  have hP : va_P D vwCl [(mo, .inr (8, [.int rf, .ref sc, .int ss, .int 0, .int 1, .int lf, .ref rd, .ref nw, .ref tr, .ref di, .int ac, .ref kp, .ref ik])), (sc, .inl (tc 0, 120, .inl scr)), (rd, .inl (tc 0, 357, .inl rrow))] H := hP
  have hD : va_D A [(mo, .inr (8, [.int rf, .ref sc, .int ss, .int 0, .int 1, .int lf, .ref rd, .ref nw, .ref tr, .ref di, .int ac, .ref kp, .ref ik])), (sc, .inl (tc 0, 120, .inl scr)), (rd, .inl (tc 0, 357, .inl rrow))] := hD
  refine lv_aload_n hx hb dX8_readText_10 rfl (lv_at hl 0 rfl) ?_
  refine lv_iconst (v := 0) hx hb dX8_readText_11 (by decide) ?_
  refine va_put (D := D) (ci := 8) (v := .int 0) (ty := .int) (C := RX8) (T := TX8) (N := 13) hx hb hts iX8_readText_X8 tyX8 tyX8_ok nmX8 hown hK hP hD hS 0 rfl rfl 5 (by decide) (hts (.fieldLink RX8 129 "FrameCardModel" "leftOut" "I") (by decide +kernel)) (fun _ h9 => h9) rfl (by decide +kernel) rfl rfl (Nat.le_of_ble_eq_true rfl) dX8_readText_12 (fun H locs hP hD hS => ?_)
  have hP : va_P D vwCl [(mo, .inr (8, [.int rf, .ref sc, .int ss, .int 0, .int 1, .int 0, .ref rd, .ref nw, .ref tr, .ref di, .int ac, .ref kp, .ref ik])), (sc, .inl (tc 0, 120, .inl scr)), (rd, .inl (tc 0, 357, .inl rrow))] H := hP
  have hD : va_D A [(mo, .inr (8, [.int rf, .ref sc, .int ss, .int 0, .int 1, .int 0, .ref rd, .ref nw, .ref tr, .ref di, .int ac, .ref kp, .ref ik])), (sc, .inl (tc 0, 120, .inl scr)), (rd, .inl (tc 0, 357, .inl rrow))] := hD
  refine lv_aload_n hx hb dX8_readText_15 rfl (lv_at hl 0 rfl) ?_
  refine lv_aload_n hx hb dX8_readText_16 rfl (lv_at hl 0 rfl) ?_
  refine lv_bipush (v := 67) hx hb dX8_readText_17 (by decide) ?_
  refine fc_goi (isC := [0, 1]) (isR := [2]) (wc := [(mo, .inr (8, [.int rf, .ref sc, .int ss, .int 0, .int 1, .int 0, .ref rd, .ref nw, .ref tr, .ref di, .int ac, .ref kp, .ref ik])), (sc, .inl (tc 0, 120, .inl scr))]) (wr := [(rd, .inl (tc 0, 357, .inl rrow))]) hP hD hS hA rfl rfl (by decide) (by decide) (fc_runV (isC := [0, 1]) (As := [.int 67]) (rest := [.ref mo]) hx hb hml hown hts hK hE hP hD hS hA rfl (by decide) (c_X8_isNext l D tc mo sc rd nw tr di kp ik rf ss 0 1 0 ac scr 67 _ (by have l_0 : (0 : Int32).toInt = 0 := (by decide); have l_1 : (1 : Int32).toInt = 1 := (by decide); have l_2 : (2 : Int32).toInt = 2 := (by decide); have l_3 : (3 : Int32).toInt = 3 := (by decide); have l_4 : (4 : Int32).toInt = 4 := (by decide); have l_67 : (67 : Int32).toInt = 67 := (by decide); (try simp only [fc_le, fc_lt, fc_eq]); omega) (by have l_0 : (0 : Int32).toInt = 0 := (by decide); have l_1 : (1 : Int32).toInt = 1 := (by decide); have l_2 : (2 : Int32).toInt = 2 := (by decide); have l_3 : (3 : Int32).toInt = 3 := (by decide); have l_4 : (4 : Int32).toInt = 4 := (by decide); have l_67 : (67 : Int32).toInt = 67 := (by decide); (try simp only [fc_le, fc_lt, fc_eq]); omega)) (cwV 1 hts gX8_readText_X8_isNext rfl rfl rfl hd_X8_isNext ⟨Nat.le_of_ble_eq_true rfl, Nat.le_of_ble_eq_true rfl⟩) (ci := 8) rfl rfl rfl rfl hl.1 rfl (Nat.le_of_ble_eq_true rfl) dX8_readText_19 ⟨Nat.le_of_ble_eq_true rfl, Nat.le_of_ble_eq_true rfl⟩) (fun r_1 u_1 H locs hw_1 hP hD hS => ?_)
  try dsimp only at hw_1
  have hP : va_P D vwCl [(rd, .inl (tc 0, 357, .inl rrow)), (mo, .inr (8, [.int rf, .ref sc, .int ss, .int 0, .int 1, .int 0, .ref rd, .ref nw, .ref tr, .ref di, .int ac, .ref kp, .ref ik])), (sc, .inl (tc 0, 120, .inl scr))] H := hP
  have hD : va_D A [(rd, .inl (tc 0, 357, .inl rrow)), (mo, .inr (8, [.int rf, .ref sc, .int ss, .int 0, .int 1, .int 0, .ref rd, .ref nw, .ref tr, .ref di, .int ac, .ref kp, .ref ik])), (sc, .inl (tc 0, 120, .inl scr))] := hD
  refine fc_gov (isC := [1]) (isR := [0, 2]) (wc := [(mo, .inr (8, [.int rf, .ref sc, .int ss, .int 0, .int 1, .int 0, .ref rd, .ref nw, .ref tr, .ref di, .int ac, .ref kp, .ref ik]))]) (wr := [(rd, .inl (tc 0, 357, .inl rrow)), (sc, .inl (tc 0, 120, .inl scr))]) hP hD hS hA rfl rfl (by decide) (by decide) (fc_runV (isC := [1]) (As := [.int r_1]) (rest := []) hx hb hml hown hts hK hE hP hD hS hA rfl (by decide) (c_X8_accept l D tc mo sc rd nw tr di kp ik rf ss 0 1 0 ac r_1 _ ) (cwV 1 hts gX8_readText_X8_accept rfl rfl rfl hd_X8_accept ⟨Nat.le_of_ble_eq_true rfl, Nat.le_of_ble_eq_true rfl⟩) (ci := 8) rfl rfl rfl rfl hl.1 rfl (Nat.le_of_ble_eq_true rfl) dX8_readText_22 ⟨Nat.le_of_ble_eq_true rfl, Nat.le_of_ble_eq_true rfl⟩) (fun u_2 H locs hw_2 hP hD hS => ?_)
  obtain ⟨sp_2, ig_2⟩ := u_2
  try dsimp only at hw_2
  have hP : va_P D vwCl [(rd, .inl (tc 0, 357, .inl rrow)), (sc, .inl (tc 0, 120, .inl scr)), (mo, .inr (8, [.int rf, .ref sc, .int ss, .int sp_2, .int ig_2, .int 0, .ref rd, .ref nw, .ref tr, .ref di, .int ac, .ref kp, .ref ik]))] H := hP
  have hD : va_D A [(rd, .inl (tc 0, 357, .inl rrow)), (sc, .inl (tc 0, 120, .inl scr)), (mo, .inr (8, [.int rf, .ref sc, .int ss, .int sp_2, .int ig_2, .int 0, .ref rd, .ref nw, .ref tr, .ref di, .int ac, .ref kp, .ref ik]))] := hD
  have hf_2 := fr_accept hw_2 (by omega)
  refine lv_aload_n hx hb dX8_readText_25 rfl (lv_at hl 0 rfl) ?_
  refine lv_bipush (v := 8) hx hb dX8_readText_26 (by decide) ?_
  refine lv_bipush (v := 48) hx hb dX8_readText_28 (by decide) ?_
  refine fc_goi (isC := [2, 1]) (isR := [0]) (wc := [(mo, .inr (8, [.int rf, .ref sc, .int ss, .int sp_2, .int ig_2, .int 0, .ref rd, .ref nw, .ref tr, .ref di, .int ac, .ref kp, .ref ik])), (sc, .inl (tc 0, 120, .inl scr))]) (wr := [(rd, .inl (tc 0, 357, .inl rrow))]) hP hD hS hA rfl rfl (by decide) (by decide) (fc_runV (isC := [2, 1]) (As := [.int 8, .int 48]) (rest := []) hx hb hml hown hts hK hE hP hD hS hA rfl (by decide) (c_X8_two l D tc mo sc rd nw tr di kp ik rf ss sp_2 ig_2 0 ac scr 8 48 _ (by have l_0 : (0 : Int32).toInt = 0 := (by decide); have l_1 : (1 : Int32).toInt = 1 := (by decide); have l_2 : (2 : Int32).toInt = 2 := (by decide); have l_3 : (3 : Int32).toInt = 3 := (by decide); have l_4 : (4 : Int32).toInt = 4 := (by decide); have l_48 : (48 : Int32).toInt = 48 := (by decide); have l_8 : (8 : Int32).toInt = 8 := (by decide); (try simp only [fc_le, fc_lt, fc_eq]); omega) (by have l_0 : (0 : Int32).toInt = 0 := (by decide); have l_1 : (1 : Int32).toInt = 1 := (by decide); have l_2 : (2 : Int32).toInt = 2 := (by decide); have l_3 : (3 : Int32).toInt = 3 := (by decide); have l_4 : (4 : Int32).toInt = 4 := (by decide); have l_48 : (48 : Int32).toInt = 48 := (by decide); have l_8 : (8 : Int32).toInt = 8 := (by decide); (try simp only [fc_le, fc_lt, fc_eq]); omega)) (cwV 2 hts gX8_readText_X8_two rfl rfl rfl hd_X8_two ⟨Nat.le_of_ble_eq_true rfl, Nat.le_of_ble_eq_true rfl⟩) (ci := 8) rfl rfl rfl rfl hl.1 rfl (Nat.le_of_ble_eq_true rfl) dX8_readText_30 ⟨Nat.le_of_ble_eq_true rfl, Nat.le_of_ble_eq_true rfl⟩) (fun r_3 u_3 H locs hw_3 hP hD hS => ?_)
  obtain ⟨sp_3, ig_3⟩ := u_3
  try dsimp only at hw_3
  have hP : va_P D vwCl [(rd, .inl (tc 0, 357, .inl rrow)), (mo, .inr (8, [.int rf, .ref sc, .int ss, .int sp_3, .int ig_3, .int 0, .ref rd, .ref nw, .ref tr, .ref di, .int ac, .ref kp, .ref ik])), (sc, .inl (tc 0, 120, .inl scr))] H := hP
  have hD : va_D A [(rd, .inl (tc 0, 357, .inl rrow)), (mo, .inr (8, [.int rf, .ref sc, .int ss, .int sp_3, .int ig_3, .int 0, .ref rd, .ref nw, .ref tr, .ref di, .int ac, .ref kp, .ref ik])), (sc, .inl (tc 0, 120, .inl scr))] := hD
  have hf_3 := fr_two hw_3 (by omega)
  have hg_3 := fr_two848 hw_3
  refine lv_istore_n (lv' := [(1, .int r_3), (0, .ref mo)]) hx hb dX8_readText_33 rfl hl (by decide) rfl (fun ls hl => ?_)
  refine lv_aload_n hx hb dX8_readText_34 rfl (lv_at hl 1 rfl) ?_
  refine lv_iconst (v := 0) hx hb dX8_readText_35 (by decide) ?_
  refine lv_bipush (v := 8) hx hb dX8_readText_36 (by decide) ?_
  refine fc_goi (isC := [1, 2]) (isR := [0]) (wc := [(mo, .inr (8, [.int rf, .ref sc, .int ss, .int sp_3, .int ig_3, .int 0, .ref rd, .ref nw, .ref tr, .ref di, .int ac, .ref kp, .ref ik])), (sc, .inl (tc 0, 120, .inl scr))]) (wr := [(rd, .inl (tc 0, 357, .inl rrow))]) hP hD hS hA rfl rfl (by decide) (by decide) (fc_runV (isC := [1, 2]) (As := [.int 0, .int 8]) (rest := []) hx hb hml hown hts hK hE hP hD hS hA rfl (by decide) (c_X8_digit l D tc mo sc rd nw tr di kp ik rf ss sp_3 ig_3 0 ac scr 0 8 _ (by have l_0 : (0 : Int32).toInt = 0 := (by decide); have l_1 : (1 : Int32).toInt = 1 := (by decide); have l_2 : (2 : Int32).toInt = 2 := (by decide); have l_3 : (3 : Int32).toInt = 3 := (by decide); have l_4 : (4 : Int32).toInt = 4 := (by decide); have l_8 : (8 : Int32).toInt = 8 := (by decide); (try simp only [fc_le, fc_lt, fc_eq]); omega) (by have l_0 : (0 : Int32).toInt = 0 := (by decide); have l_1 : (1 : Int32).toInt = 1 := (by decide); have l_2 : (2 : Int32).toInt = 2 := (by decide); have l_3 : (3 : Int32).toInt = 3 := (by decide); have l_4 : (4 : Int32).toInt = 4 := (by decide); have l_8 : (8 : Int32).toInt = 8 := (by decide); (try simp only [fc_le, fc_lt, fc_eq]); omega)) (cwV 2 hts gX8_readText_X8_digit rfl rfl rfl hd_X8_digit ⟨Nat.le_of_ble_eq_true rfl, Nat.le_of_ble_eq_true rfl⟩) (ci := 8) rfl rfl rfl rfl hl.1 rfl (Nat.le_of_ble_eq_true rfl) dX8_readText_38 ⟨Nat.le_of_ble_eq_true rfl, Nat.le_of_ble_eq_true rfl⟩) (fun r_4 u_4 H locs hw_4 hP hD hS => ?_)
  obtain ⟨sp_4, ig_4⟩ := u_4
  try dsimp only at hw_4
  have hP : va_P D vwCl [(rd, .inl (tc 0, 357, .inl rrow)), (mo, .inr (8, [.int rf, .ref sc, .int ss, .int sp_4, .int ig_4, .int 0, .ref rd, .ref nw, .ref tr, .ref di, .int ac, .ref kp, .ref ik])), (sc, .inl (tc 0, 120, .inl scr))] H := hP
  have hD : va_D A [(rd, .inl (tc 0, 357, .inl rrow)), (mo, .inr (8, [.int rf, .ref sc, .int ss, .int sp_4, .int ig_4, .int 0, .ref rd, .ref nw, .ref tr, .ref di, .int ac, .ref kp, .ref ik])), (sc, .inl (tc 0, 120, .inl scr))] := hD
  have hf_4 := fr_digit hw_4 (by omega)
  have hg_4 := fr_digit08 hw_4
  refine lv_istore_n (lv' := [(2, .int r_4), (1, .int r_3), (0, .ref mo)]) hx hb dX8_readText_41 rfl hl (by decide) rfl (fun ls hl => ?_)
  refine lv_aload_n hx hb dX8_readText_42 rfl (lv_at hl 2 rfl) ?_
  refine lv_iconst (v := 0) hx hb dX8_readText_43 (by decide) ?_
  refine lv_bipush (v := 9) hx hb dX8_readText_44 (by decide) ?_
  refine fc_goi (isC := [1, 2]) (isR := [0]) (wc := [(mo, .inr (8, [.int rf, .ref sc, .int ss, .int sp_4, .int ig_4, .int 0, .ref rd, .ref nw, .ref tr, .ref di, .int ac, .ref kp, .ref ik])), (sc, .inl (tc 0, 120, .inl scr))]) (wr := [(rd, .inl (tc 0, 357, .inl rrow))]) hP hD hS hA rfl rfl (by decide) (by decide) (fc_runV (isC := [1, 2]) (As := [.int 0, .int 9]) (rest := []) hx hb hml hown hts hK hE hP hD hS hA rfl (by decide) (c_X8_digit l D tc mo sc rd nw tr di kp ik rf ss sp_4 ig_4 0 ac scr 0 9 _ (by have l_0 : (0 : Int32).toInt = 0 := (by decide); have l_1 : (1 : Int32).toInt = 1 := (by decide); have l_2 : (2 : Int32).toInt = 2 := (by decide); have l_3 : (3 : Int32).toInt = 3 := (by decide); have l_4 : (4 : Int32).toInt = 4 := (by decide); have l_9 : (9 : Int32).toInt = 9 := (by decide); (try simp only [fc_le, fc_lt, fc_eq]); omega) (by have l_0 : (0 : Int32).toInt = 0 := (by decide); have l_1 : (1 : Int32).toInt = 1 := (by decide); have l_2 : (2 : Int32).toInt = 2 := (by decide); have l_3 : (3 : Int32).toInt = 3 := (by decide); have l_4 : (4 : Int32).toInt = 4 := (by decide); have l_9 : (9 : Int32).toInt = 9 := (by decide); (try simp only [fc_le, fc_lt, fc_eq]); omega)) (cwV 2 hts gX8_readText_X8_digit rfl rfl rfl hd_X8_digit ⟨Nat.le_of_ble_eq_true rfl, Nat.le_of_ble_eq_true rfl⟩) (ci := 8) rfl rfl rfl rfl hl.1 rfl (Nat.le_of_ble_eq_true rfl) dX8_readText_46 ⟨Nat.le_of_ble_eq_true rfl, Nat.le_of_ble_eq_true rfl⟩) (fun r_5 u_5 H locs hw_5 hP hD hS => ?_)
  obtain ⟨sp_5, ig_5⟩ := u_5
  try dsimp only at hw_5
  have hP : va_P D vwCl [(rd, .inl (tc 0, 357, .inl rrow)), (mo, .inr (8, [.int rf, .ref sc, .int ss, .int sp_5, .int ig_5, .int 0, .ref rd, .ref nw, .ref tr, .ref di, .int ac, .ref kp, .ref ik])), (sc, .inl (tc 0, 120, .inl scr))] H := hP
  have hD : va_D A [(rd, .inl (tc 0, 357, .inl rrow)), (mo, .inr (8, [.int rf, .ref sc, .int ss, .int sp_5, .int ig_5, .int 0, .ref rd, .ref nw, .ref tr, .ref di, .int ac, .ref kp, .ref ik])), (sc, .inl (tc 0, 120, .inl scr))] := hD
  have hf_5 := fr_digit hw_5 (by omega)
  refine lv_istore_n (lv' := [(3, .int r_5), (2, .int r_4), (1, .int r_3), (0, .ref mo)]) hx hb dX8_readText_49 rfl hl (by decide) rfl (fun ls hl => ?_)
  refine lv_aload_n hx hb dX8_readText_50 rfl (lv_at hl 3 rfl) ?_
  refine va_get (D := D) (ci := 8) (v := .ref rd) (C := RX8) (T := TX8) (N := 13) hx hb hts iX8_readText_X8 hown hK hP 1 rfl rfl 6 (by decide) (hts (.fieldLink RX8 13 "FrameCardModel" "read" "[I") (by decide +kernel)) (fun _ h9 => h9) rfl dX8_readText_51 ?_
  refine lv_iload_n hx hb dX8_readText_54 rfl (lv_at hl 2 rfl) ?_
  refine lv_iload_n hx hb dX8_readText_55 rfl (lv_at hl 1 rfl) ?_
  refine lv_iload_n hx hb dX8_readText_56 rfl (lv_at hl 0 rfl) ?_
  refine lv_aload_n hx hb dX8_readText_57 rfl (lv_at hl 3 rfl) ?_
  refine lv_iconst (v := 1) hx hb dX8_readText_58 (by decide) ?_
  refine lv_bipush (v := 20) hx hb dX8_readText_59 (by decide) ?_
  refine fc_goi (isC := [1, 2]) (isR := [0]) (wc := [(mo, .inr (8, [.int rf, .ref sc, .int ss, .int sp_5, .int ig_5, .int 0, .ref rd, .ref nw, .ref tr, .ref di, .int ac, .ref kp, .ref ik])), (sc, .inl (tc 0, 120, .inl scr))]) (wr := [(rd, .inl (tc 0, 357, .inl rrow))]) hP hD hS hA rfl rfl (by decide) (by decide) (fc_runV (isC := [1, 2]) (As := [.int 1, .int 20]) (rest := [.int r_5, .int r_4, .int r_3, .ref rd]) hx hb hml hown hts hK hE hP hD hS hA rfl (by decide) (c_X8_two l D tc mo sc rd nw tr di kp ik rf ss sp_5 ig_5 0 ac scr 1 20 _ (by have l_0 : (0 : Int32).toInt = 0 := (by decide); have l_1 : (1 : Int32).toInt = 1 := (by decide); have l_2 : (2 : Int32).toInt = 2 := (by decide); have l_20 : (20 : Int32).toInt = 20 := (by decide); have l_3 : (3 : Int32).toInt = 3 := (by decide); have l_4 : (4 : Int32).toInt = 4 := (by decide); (try simp only [fc_le, fc_lt, fc_eq]); omega) (by have l_0 : (0 : Int32).toInt = 0 := (by decide); have l_1 : (1 : Int32).toInt = 1 := (by decide); have l_2 : (2 : Int32).toInt = 2 := (by decide); have l_20 : (20 : Int32).toInt = 20 := (by decide); have l_3 : (3 : Int32).toInt = 3 := (by decide); have l_4 : (4 : Int32).toInt = 4 := (by decide); (try simp only [fc_le, fc_lt, fc_eq]); omega)) (cwV 2 hts gX8_readText_X8_two rfl rfl rfl hd_X8_two ⟨Nat.le_of_ble_eq_true rfl, Nat.le_of_ble_eq_true rfl⟩) (ci := 8) rfl rfl rfl rfl hl.1 rfl (Nat.le_of_ble_eq_true rfl) dX8_readText_61 ⟨Nat.le_of_ble_eq_true rfl, Nat.le_of_ble_eq_true rfl⟩) (fun r_6 u_6 H locs hw_6 hP hD hS => ?_)
  obtain ⟨sp_6, ig_6⟩ := u_6
  try dsimp only at hw_6
  have hP : va_P D vwCl [(rd, .inl (tc 0, 357, .inl rrow)), (mo, .inr (8, [.int rf, .ref sc, .int ss, .int sp_6, .int ig_6, .int 0, .ref rd, .ref nw, .ref tr, .ref di, .int ac, .ref kp, .ref ik])), (sc, .inl (tc 0, 120, .inl scr))] H := hP
  have hD : va_D A [(rd, .inl (tc 0, 357, .inl rrow)), (mo, .inr (8, [.int rf, .ref sc, .int ss, .int sp_6, .int ig_6, .int 0, .ref rd, .ref nw, .ref tr, .ref di, .int ac, .ref kp, .ref ik])), (sc, .inl (tc 0, 120, .inl scr))] := hD
  have hf_6 := fr_two hw_6 (by omega)
  refine fc_gov (isC := [0]) (isR := [1, 2]) (wc := [(rd, .inl (tc 0, 357, .inl rrow))]) (wr := [(mo, .inr (8, [.int rf, .ref sc, .int ss, .int sp_6, .int ig_6, .int 0, .ref rd, .ref nw, .ref tr, .ref di, .int ac, .ref kp, .ref ik])), (sc, .inl (tc 0, 120, .inl scr))]) hP hD hS hA rfl rfl (by decide) (by decide) (fc_runS (isC := [0]) (As := [.ref rd, .int r_3, .int r_4, .int r_5, .int r_6]) (rest := []) hx hb hml hown hts hK hE hP hD hS hA rfl (by decide) (c_X8_clean l D tc rd rrow r_3 r_4 r_5 r_6 _ ) (cwS 5 hts gX8_readText_X8_clean rfl rfl rfl hd_X8_clean ⟨Nat.le_of_ble_eq_true rfl, Nat.le_of_ble_eq_true rfl⟩) rfl hl.1 rfl (Nat.le_of_ble_eq_true rfl) dX8_readText_64 ⟨Nat.le_of_ble_eq_true rfl, Nat.le_of_ble_eq_true rfl⟩) (fun u_7 H locs hw_7 hP hD hS => ?_)
  obtain ⟨row_7, rfl⟩ : ∃ z, z = u_7 := ⟨_, rfl⟩
  try dsimp only at hw_7
  have hP : va_P D vwCl [(mo, .inr (8, [.int rf, .ref sc, .int ss, .int sp_6, .int ig_6, .int 0, .ref rd, .ref nw, .ref tr, .ref di, .int ac, .ref kp, .ref ik])), (sc, .inl (tc 0, 120, .inl scr)), (rd, .inl (tc 0, 357, .inl row_7))] H := hP
  have hD : va_D A [(mo, .inr (8, [.int rf, .ref sc, .int ss, .int sp_6, .int ig_6, .int 0, .ref rd, .ref nw, .ref tr, .ref di, .int ac, .ref kp, .ref ik])), (sc, .inl (tc 0, 120, .inl scr)), (rd, .inl (tc 0, 357, .inl row_7))] := hD
  have hx1 := fx_cleanX hw_7 hg_3 hg_4
  have loop_67 : ∀ (k_67 : Nat) (sph67 : Int32) (igh67 : Int32) (lfh67 : Int32) (rrowh67 : Nat → Int32) (hs_67 : 0 ≤ sph67.toInt ∧ sph67.toInt ≤ 130) (hm_67 : 1 ≤ k_67 ∧ (igh67.toInt = 0 ∨ 121 ≤ sph67.toInt + k_67)) (hx_67 : RXn (60 * k_67) rrowh67) (hI_67 : mX8_readText rf ss sp ig lf ac scr rrow = mX8_readText_L67 rf ss ac scr r_3 r_4 r_5 k_67 sph67 igh67 lfh67 rrowh67) (H : Heap) (locs : List Loc), va_P D vwCl [(mo, .inr (8, [.int rf, .ref sc, .int ss, .int sph67, .int igh67, .int lfh67, .ref rd, .ref nw, .ref tr, .ref di, .int ac, .ref kp, .ref ik])), (sc, .inl (tc 0, 120, .inl scr)), (rd, .inl (tc 0, 357, .inl rrowh67))] H → va_D A [(mo, .inr (8, [.int rf, .ref sc, .int ss, .int sph67, .int igh67, .int lfh67, .ref rd, .ref nw, .ref tr, .ref di, .int ac, .ref kp, .ref ik])), (sc, .inl (tc 0, 120, .inl scr)), (rd, .inl (tc 0, 357, .inl rrowh67))] → va_S A s.heap H locs → ∀ ls : Array Slot, lv_has ls 4 [(3, .int r_5), (2, .int r_4), (1, .int r_3), (0, .ref mo)] → W p l e rmX8_readText s m args below meth c H locs 0 0 Q (F0 m 67 ls []) := by
    intro k_67
    induction k_67 with
    | zero =>
      intro sph67 igh67 lfh67 rrowh67 hs_67 hm_67 hx_67 hI_67 H locs hP hD hS ls hl
      exact absurd hm_67 (by omega)
    | succ k_67 ih_67 =>
      intro sph67 igh67 lfh67 rrowh67 hs_67 hm_67 hx_67 hI_67 H locs hP hD hS ls hl
      refine lv_aload_n hx hb dX8_readText_67 rfl (lv_at hl 3 rfl) ?_
      refine va_get (D := D) (ci := 8) (v := .int igh67) (C := RX8) (T := TX8) (N := 13) hx hb hts iX8_readText_X8 hown hK hP 0 rfl rfl 4 (by decide) (hts (.fieldLink RX8 110 "FrameCardModel" "isGood" "Z") (by decide +kernel)) (fun _ h9 => h9) rfl dX8_readText_68 ?_
      refine lv_if_eq (tgt := 92) hx hb dX8_readText_71 (by decide) (fun c_8 => ?_) (fun c_8 => ?_)
      · refine lv_aload_n hx hb dX8_readText_92 rfl (lv_at hl 3 rfl) ?_
        refine va_get (D := D) (ci := 8) (v := .int igh67) (C := RX8) (T := TX8) (N := 13) hx hb hts iX8_readText_X8 hown hK hP 0 rfl rfl 4 (by decide) (hts (.fieldLink RX8 110 "FrameCardModel" "isGood" "Z") (by decide +kernel)) (fun _ h9 => h9) rfl dX8_readText_93 ?_
        refine lv_if_eq (tgt := 103) hx hb dX8_readText_96 (by decide) (fun c_9 => ?_) (fun c_9 => ?_)
        · refine lv_aload_n hx hb dX8_readText_103 rfl (lv_at hl 3 rfl) ?_
          refine va_get (D := D) (ci := 8) (v := .int sph67) (C := RX8) (T := TX8) (N := 13) hx hb hts iX8_readText_X8 hown hK hP 0 rfl rfl 3 (by decide) (hts (.fieldLink RX8 107 "FrameCardModel" "spot" "I") (by decide +kernel)) (fun _ h9 => h9) rfl dX8_readText_104 ?_
          exact hret _ _ (sph67) (sph67, igh67, lfh67, rrowh67) _ _ (by rw [hI_67, mX8_readText_L67_s, mX8_readText_S67]; rw [if_pos c_8]; (first | done | rfl)) (hP.sub [0, 1, 2] rfl) (hD.sub [0, 1, 2] (by decide) rfl) hS dX8_readText_107
        · exact absurd c_8 c_9
      · refine lv_aload_n hx hb dX8_readText_74 rfl (lv_at hl 3 rfl) ?_
        refine va_get (D := D) (ci := 8) (v := .int sph67) (C := RX8) (T := TX8) (N := 13) hx hb hts iX8_readText_X8 hown hK hP 0 rfl rfl 3 (by decide) (hts (.fieldLink RX8 107 "FrameCardModel" "spot" "I") (by decide +kernel)) (fun _ h9 => h9) rfl dX8_readText_75 ?_
        refine lv_aload_n hx hb dX8_readText_78 rfl (lv_at hl 3 rfl) ?_
        refine va_get (D := D) (ci := 8) (v := .int ss) (C := RX8) (T := TX8) (N := 13) hx hb hts iX8_readText_X8 hown hK hP 0 rfl rfl 2 (by decide) (hts (.fieldLink RX8 100 "FrameCardModel" "scriptSize" "I") (by decide +kernel)) (fun _ h9 => h9) rfl dX8_readText_79 ?_
        refine lv_icmp_ge (tgt := 92) hx hb dX8_readText_82 (by decide) (fun c_10 => ?_) (fun c_10 => ?_)
        · refine lv_aload_n hx hb dX8_readText_92 rfl (lv_at hl 3 rfl) ?_
          refine va_get (D := D) (ci := 8) (v := .int igh67) (C := RX8) (T := TX8) (N := 13) hx hb hts iX8_readText_X8 hown hK hP 0 rfl rfl 4 (by decide) (hts (.fieldLink RX8 110 "FrameCardModel" "isGood" "Z") (by decide +kernel)) (fun _ h9 => h9) rfl dX8_readText_93 ?_
          refine lv_if_eq (tgt := 103) hx hb dX8_readText_96 (by decide) (fun c_11 => ?_) (fun c_11 => ?_)
          · exact absurd c_11 c_8
          · refine lv_iconst (v := (-1)) hx hb dX8_readText_99 (by decide) ?_
            refine lv_goto (tgt := 107) hx hb dX8_readText_100 (by decide) ?_
            exact hret _ _ (-1) (sph67, igh67, lfh67, rrowh67) _ _ (by rw [hI_67, mX8_readText_L67_s, mX8_readText_S67]; rw [if_neg c_8]; rw [if_pos c_10]; (first | done | rfl)) (hP.sub [0, 1, 2] rfl) (hD.sub [0, 1, 2] (by decide) rfl) hS dX8_readText_107
        · refine lv_aload_n hx hb dX8_readText_85 rfl (lv_at hl 3 rfl) ?_
          refine fc_gov (isC := [0, 1, 2]) (isR := []) (wc := [(mo, .inr (8, [.int rf, .ref sc, .int ss, .int sph67, .int igh67, .int lfh67, .ref rd, .ref nw, .ref tr, .ref di, .int ac, .ref kp, .ref ik])), (sc, .inl (tc 0, 120, .inl scr)), (rd, .inl (tc 0, 357, .inl rrowh67))]) (wr := []) hP hD hS hA rfl rfl (by decide) (by decide) (fc_runV (isC := [0, 1, 2]) (As := []) (rest := []) hx hb hml hown hts hK hE hP hD hS hA rfl (by decide) (c_X8_readCommand l D tc mo sc rd nw tr di kp ik rf ss sph67 igh67 lfh67 ac scr rrowh67 _ ⟨by omega, by omega⟩ hss (hx_67.mono (by omega))) (cwV 0 hts gX8_readText_X8_readCommand rfl rfl rfl hd_X8_readCommand ⟨Nat.le_of_ble_eq_true rfl, Nat.le_of_ble_eq_true rfl⟩) (ci := 8) rfl rfl rfl rfl hl.1 rfl (Nat.le_of_ble_eq_true rfl) dX8_readText_86 ⟨Nat.le_of_ble_eq_true rfl, Nat.le_of_ble_eq_true rfl⟩) (fun u_12 H locs hw_12 hP hD hS => ?_)
          obtain ⟨sp_12, ig_12, lf_12, rrow_12⟩ := u_12
          try dsimp only at hw_12
          have hP : va_P D vwCl [(mo, .inr (8, [.int rf, .ref sc, .int ss, .int sp_12, .int ig_12, .int lf_12, .ref rd, .ref nw, .ref tr, .ref di, .int ac, .ref kp, .ref ik])), (sc, .inl (tc 0, 120, .inl scr)), (rd, .inl (tc 0, 357, .inl rrow_12))] H := hP
          have hD : va_D A [(mo, .inr (8, [.int rf, .ref sc, .int ss, .int sp_12, .int ig_12, .int lf_12, .ref rd, .ref nw, .ref tr, .ref di, .int ac, .ref kp, .ref ik])), (sc, .inl (tc 0, 120, .inl scr)), (rd, .inl (tc 0, 357, .inl rrow_12))] := hD
          have hf_12 := fr_readCommand hw_12 (by omega)
          refine lv_goto (tgt := 67) hx hb dX8_readText_89 (by decide) ?_
          exact ih_67 sp_12 ig_12 lf_12 rrow_12 (by have l_0 : (0 : Int32).toInt = 0 := (by decide); have l_1 : (1 : Int32).toInt = 1 := (by decide); have l_2 : (2 : Int32).toInt = 2 := (by decide); have l_3 : (3 : Int32).toInt = 3 := (by decide); have l_4 : (4 : Int32).toInt = 4 := (by decide); have qc_8 := c_8; (try simp only [fc_le, fc_lt, fc_eq] at qc_8); have qc_10 := c_10; (try simp only [fc_le, fc_lt, fc_eq] at qc_10); skip; omega) (by have l_0 : (0 : Int32).toInt = 0 := (by decide); have l_1 : (1 : Int32).toInt = 1 := (by decide); have l_2 : (2 : Int32).toInt = 2 := (by decide); have l_3 : (3 : Int32).toInt = 3 := (by decide); have l_4 : (4 : Int32).toInt = 4 := (by decide); have qc_8 := c_8; (try simp only [fc_le, fc_lt, fc_eq] at qc_8); have qc_10 := c_10; (try simp only [fc_le, fc_lt, fc_eq] at qc_10); skip; omega) (fr_readCommandX hw_12 (hx_67.mono (by omega)) (by omega)) (by rw [hI_67, mX8_readText_L67_s, mX8_readText_S67]; rw [if_neg c_8]; rw [if_neg c_10]; rw [hw_12]; rw [mX8_readText_C12]; (try dsimp only); (first | done | rfl)) _ _ (hP.sub [0, 1, 2] rfl) (hD.sub [0, 1, 2] (by decide) rfl) hS ls (lv_sub hl [0, 1, 2, 3] rfl)
  exact loop_67 122 sp_6 ig_6 0 row_7 (by omega) (by omega) hx1 (by rw [mX8_readText]; rw [hw_1]; (try dsimp only); rw [hw_2]; rw [mX8_readText_C2]; (try dsimp only); rw [hw_3]; rw [mX8_readText_C3]; (try dsimp only); rw [hw_4]; rw [mX8_readText_C4]; (try dsimp only); rw [hw_5]; rw [mX8_readText_C5]; (try dsimp only); rw [hw_6]; rw [mX8_readText_C6]; (try dsimp only); rw [hw_7]; (try dsimp only); (first | done | rfl)) _ _ (hP.sub [0, 1, 2] rfl) (hD.sub [0, 1, 2] (by decide) rfl) hS ls (lv_sub hl [0, 1, 2, 3] rfl)
--# X8_errorPosition
theorem hd_X8_readText : yX8_readText.cls = RX8 ∧ yX8_readText.cls ≠ "java/lang/invoke/MethodHandle" ∧ yX8_readText.cls ≠ "java/lang/invoke/VarHandle" ∧ (parseMethodDescriptor yX8_readText.desc).map (fun d => d.parameters.length) = some 0 := by decide +kernel
theorem hd_X8_readTextn : yX8_readText.cls ≠ "java/lang/invoke/MethodHandle" ∧ yX8_readText.cls ≠ "java/lang/invoke/VarHandle" ∧ (parseMethodDescriptor yX8_readText.desc).map (fun d => d.parameters.length) = some 0 := by decide +kernel
noncomputable def mX8_errorPosition (rf : Int32) (ss : Int32) (sp : Int32) (ig : Int32) (lf : Int32) (ac : Int32) (scr : Nat → Int32) (rrow : Nat → Int32) : Int32 × Int32 × Int32 × Int32 × Int32 × (Nat → Int32) :=
  match mX8_readText 0 ss sp ig lf ac scr rrow with
  | (r_1, sp_1, ig_1, lf_1, rrow_1) =>
    (r_1, 0, sp_1, ig_1, lf_1, rrow_1)
set_option maxRecDepth 20000 in
theorem iX8_errorPosition_X8 : ∀ w ∈ wsX80, w ∈ wsX8_errorPosition := by decide +kernel
abbrev rmX8_errorPosition : Room := { frames := 7, cells := 0, slots := 0, locals := 158 }
set_option maxHeartbeats 4000000 in
set_option maxRecDepth 100000 in
theorem c_X8_errorPosition (l : Launch) (D : va_G) (tc : Nat → ClassId) (mo : Nat) (sc : Nat) (rd : Nat) (nw : Nat) (tr : Nat) (di : Nat) (kp : Nat) (ik : Nat) (rf : Int32) (ss : Int32) (sp : Int32) (ig : Int32) (lf : Int32) (ac : Int32) (scr : Nat → Int32) (rrow : Nat → Int32) (sz : Nat) (hss : 0 ≤ ss.toInt ∧ ss.toInt ≤ 120) : Met l yX8_errorPosition wsX8_errorPosition rmX8_errorPosition (va_Pc [.ref mo] (fcB D tc [(mo, .inr (8, [.int rf, .ref sc, .int ss, .int sp, .int ig, .int lf, .ref rd, .ref nw, .ref tr, .ref di, .int ac, .ref kp, .ref ik])), (sc, .inl (tc 0, 120, .inl scr)), (rd, .inl (tc 0, 357, .inl rrow))] sz)) (va_Qi (fun (r : Int32) (u : Int32 × Int32 × Int32 × Int32 × (Nat → Int32)) => mX8_errorPosition rf ss sp ig lf ac scr rrow = (r, u)) (fun u t => fcO D (va_A [(mo, .inr (8, [.int rf, .ref sc, .int ss, .int sp, .int ig, .int lf, .ref rd, .ref nw, .ref tr, .ref di, .int ac, .ref kp, .ref ik])), (sc, .inl (tc 0, 120, .inl scr)), (rd, .inl (tc 0, 357, .inl rrow))] sz) ((fun (u : Int32 × Int32 × Int32 × Int32 × (Nat → Int32)) => [(mo, .inr (8, [.int (u.1), .ref sc, .int ss, .int (u.2.1), .int (u.2.2.1), .int (u.2.2.2.1), .ref rd, .ref nw, .ref tr, .ref di, .int ac, .ref kp, .ref ik])), (sc, .inl (tc 0, 120, .inl scr)), (rd, .inl (tc 0, 357, .inl (u.2.2.2.2)))]) u) t) (va_A [(mo, .inr (8, [.int rf, .ref sc, .int ss, .int sp, .int ig, .int lf, .ref rd, .ref nw, .ref tr, .ref di, .int ac, .ref kp, .ref ik])), (sc, .inl (tc 0, 120, .inl scr)), (rd, .inl (tc 0, 357, .inl rrow))] sz)) 0 0 (va_A [(mo, .inr (8, [.int rf, .ref sc, .int ss, .int sp, .int ig, .int lf, .ref rd, .ref nw, .ref tr, .ref di, .int ac, .ref kp, .ref ik])), (sc, .inl (tc 0, 120, .inl scr)), (rd, .inl (tc 0, 357, .inl rrow))] sz) := by
  refine fc_ofWi (own := RX8) (cc := cX8_errorPosition) (maxL := 1) (W1 := (fun (u : Int32 × Int32 × Int32 × Int32 × (Nat → Int32)) => [(mo, .inr (8, [.int (u.1), .ref sc, .int ss, .int (u.2.1), .int (u.2.2.1), .int (u.2.2.2.1), .ref rd, .ref nw, .ref tr, .ref di, .int ac, .ref kp, .ref ik])), (sc, .inl (tc 0, 120, .inl scr)), (rd, .inl (tc 0, 357, .inl (u.2.2.2.2)))])) rfl (by decide) rfl (Nat.le_of_ble_eq_true rfl) ?_
  intro p e s m args below meth c A Q hx hb hml hown hts hK hE hP hD hS hA hin hret ls hl
  have hl : lv_has ls 1 [(0, .ref mo)] := hl
  refine lv_aload_n hx hb dX8_errorPosition_0 rfl (lv_at hl 0 rfl) ?_
  refine lv_iconst (v := 0) hx hb dX8_errorPosition_1 (by decide) ?_
  refine va_put (D := D) (ci := 8) (v := .int 0) (ty := .int) (C := RX8) (T := TX8) (N := 13) hx hb hts iX8_errorPosition_X8 tyX8 tyX8_ok nmX8 hown hK hP hD hS 0 rfl rfl 0 (by decide) (hts (.fieldLink RX8 36 "FrameCardModel" "refusal" "I") (by decide +kernel)) (fun _ h9 => h9) rfl (by decide +kernel) rfl rfl (Nat.le_of_ble_eq_true rfl) dX8_errorPosition_2 (fun H locs hP hD hS => ?_)
  have hP : va_P D vwCl [(mo, .inr (8, [.int 0, .ref sc, .int ss, .int sp, .int ig, .int lf, .ref rd, .ref nw, .ref tr, .ref di, .int ac, .ref kp, .ref ik])), (sc, .inl (tc 0, 120, .inl scr)), (rd, .inl (tc 0, 357, .inl rrow))] H := hP
  have hD : va_D A [(mo, .inr (8, [.int 0, .ref sc, .int ss, .int sp, .int ig, .int lf, .ref rd, .ref nw, .ref tr, .ref di, .int ac, .ref kp, .ref ik])), (sc, .inl (tc 0, 120, .inl scr)), (rd, .inl (tc 0, 357, .inl rrow))] := hD
  refine lv_aload_n hx hb dX8_errorPosition_5 rfl (lv_at hl 0 rfl) ?_
  refine fc_goi (isC := [0, 1, 2]) (isR := []) (wc := [(mo, .inr (8, [.int 0, .ref sc, .int ss, .int sp, .int ig, .int lf, .ref rd, .ref nw, .ref tr, .ref di, .int ac, .ref kp, .ref ik])), (sc, .inl (tc 0, 120, .inl scr)), (rd, .inl (tc 0, 357, .inl rrow))]) (wr := []) hP hD hS hA rfl rfl (by decide) (by decide) (fc_runV (isC := [0, 1, 2]) (As := []) (rest := []) hx hb hml hown hts hK hE hP hD hS hA rfl (by decide) (c_X8_readText l D tc mo sc rd nw tr di kp ik 0 ss sp ig lf ac scr rrow _ (by have l_0 : (0 : Int32).toInt = 0 := (by decide); have l_1 : (1 : Int32).toInt = 1 := (by decide); have l_2 : (2 : Int32).toInt = 2 := (by decide); have l_3 : (3 : Int32).toInt = 3 := (by decide); have l_4 : (4 : Int32).toInt = 4 := (by decide); (try simp only [fc_le, fc_lt, fc_eq]); omega)) (cwV 0 hts gX8_errorPosition_X8_readText rfl rfl rfl hd_X8_readText ⟨Nat.le_of_ble_eq_true rfl, Nat.le_of_ble_eq_true rfl⟩) (ci := 8) rfl rfl rfl rfl hl.1 rfl (Nat.le_of_ble_eq_true rfl) dX8_errorPosition_6 ⟨Nat.le_of_ble_eq_true rfl, Nat.le_of_ble_eq_true rfl⟩) (fun r_1 u_1 H locs hw_1 hP hD hS => ?_)
  obtain ⟨sp_1, ig_1, lf_1, rrow_1⟩ := u_1
  try dsimp only at hw_1
  have hP : va_P D vwCl [(mo, .inr (8, [.int 0, .ref sc, .int ss, .int sp_1, .int ig_1, .int lf_1, .ref rd, .ref nw, .ref tr, .ref di, .int ac, .ref kp, .ref ik])), (sc, .inl (tc 0, 120, .inl scr)), (rd, .inl (tc 0, 357, .inl rrow_1))] H := hP
  have hD : va_D A [(mo, .inr (8, [.int 0, .ref sc, .int ss, .int sp_1, .int ig_1, .int lf_1, .ref rd, .ref nw, .ref tr, .ref di, .int ac, .ref kp, .ref ik])), (sc, .inl (tc 0, 120, .inl scr)), (rd, .inl (tc 0, 357, .inl rrow_1))] := hD
  exact hret _ _ (r_1) (0, sp_1, ig_1, lf_1, rrow_1) _ _ (by rw [mX8_errorPosition]; (try dsimp only); rw [hw_1]; (try dsimp only); (first | done | rfl)) (hP.sub [0, 1, 2] rfl) (hD.sub [0, 1, 2] (by decide) rfl) hS dX8_errorPosition_9
--# X8_load
noncomputable def mX8_load_C1 (ac : Int32) (row : Nat → Int32) (isk : Nat → Int32) (z_1 : Int32 × Int32 × Int32 × Int32 × (Nat → Int32)) : Int32 × Int32 × Int32 × Int32 × Int32 × Int32 × (Nat → Int32) × (Nat → Int32) × (Nat → Int32) :=
  if (z_1.1) = (-1) then
    let g_7 := mX8_copy 357 (z_1.2.2.2.2) 357 row 0 0 357
    ((z_1.2.2.2.1), 0, (z_1.2.1), (z_1.2.2.1), (z_1.2.2.2.1), 0, (z_1.2.2.2.2), g_7, (upd (upd isk (0 : Int32).toNatClampNeg (vp_nar .boolean 0)) (1 : Int32).toNatClampNeg (vp_nar .boolean 0)))
  else
    (0, 1, (z_1.2.1), (z_1.2.2.1), (z_1.2.2.2.1), ac, (z_1.2.2.2.2), row, isk)
noncomputable def mX8_load (rf : Int32) (ss : Int32) (sp : Int32) (ig : Int32) (lf : Int32) (ac : Int32) (scr : Nat → Int32) (rrow : Nat → Int32) (row : Nat → Int32) (isk : Nat → Int32) : Int32 × Int32 × Int32 × Int32 × Int32 × Int32 × (Nat → Int32) × (Nat → Int32) × (Nat → Int32) :=
  mX8_load_C1 ac row isk (mX8_readText rf ss sp ig lf ac scr rrow)
set_option maxRecDepth 20000 in
theorem iX8_load_X8 : ∀ w ∈ wsX80, w ∈ wsX8_load := by decide +kernel
abbrev rmX8_load : Room := { frames := 7, cells := 0, slots := 0, locals := 158 }
set_option maxHeartbeats 4000000 in
set_option maxRecDepth 100000 in
theorem c_X8_load (l : Launch) (D : va_G) (tc : Nat → ClassId) (mo : Nat) (sc : Nat) (rd : Nat) (nw : Nat) (tr : Nat) (di : Nat) (kp : Nat) (ik : Nat) (rf : Int32) (ss : Int32) (sp : Int32) (ig : Int32) (lf : Int32) (ac : Int32) (scr : Nat → Int32) (rrow : Nat → Int32) (row : Nat → Int32) (isk : Nat → Int32) (sz : Nat) (hss : 0 ≤ ss.toInt ∧ ss.toInt ≤ 120) : Met l yX8_load wsX8_load rmX8_load (va_Pc [.ref mo] (fcB D tc [(mo, .inr (8, [.int rf, .ref sc, .int ss, .int sp, .int ig, .int lf, .ref rd, .ref nw, .ref tr, .ref di, .int ac, .ref kp, .ref ik])), (sc, .inl (tc 0, 120, .inl scr)), (rd, .inl (tc 0, 357, .inl rrow)), (nw, .inl (tc 0, 357, .inl row)), (ik, .inl (tc 2, 2, .inl isk))] sz)) (va_Qi (fun (r : Int32) (u : Int32 × Int32 × Int32 × Int32 × Int32 × (Nat → Int32) × (Nat → Int32) × (Nat → Int32)) => mX8_load rf ss sp ig lf ac scr rrow row isk = (r, u)) (fun u t => fcO D (va_A [(mo, .inr (8, [.int rf, .ref sc, .int ss, .int sp, .int ig, .int lf, .ref rd, .ref nw, .ref tr, .ref di, .int ac, .ref kp, .ref ik])), (sc, .inl (tc 0, 120, .inl scr)), (rd, .inl (tc 0, 357, .inl rrow)), (nw, .inl (tc 0, 357, .inl row)), (ik, .inl (tc 2, 2, .inl isk))] sz) ((fun (u : Int32 × Int32 × Int32 × Int32 × Int32 × (Nat → Int32) × (Nat → Int32) × (Nat → Int32)) => [(mo, .inr (8, [.int (u.1), .ref sc, .int ss, .int (u.2.1), .int (u.2.2.1), .int (u.2.2.2.1), .ref rd, .ref nw, .ref tr, .ref di, .int (u.2.2.2.2.1), .ref kp, .ref ik])), (sc, .inl (tc 0, 120, .inl scr)), (rd, .inl (tc 0, 357, .inl (u.2.2.2.2.2.1))), (nw, .inl (tc 0, 357, .inl (u.2.2.2.2.2.2.1))), (ik, .inl (tc 2, 2, .inl (u.2.2.2.2.2.2.2)))]) u) t) (va_A [(mo, .inr (8, [.int rf, .ref sc, .int ss, .int sp, .int ig, .int lf, .ref rd, .ref nw, .ref tr, .ref di, .int ac, .ref kp, .ref ik])), (sc, .inl (tc 0, 120, .inl scr)), (rd, .inl (tc 0, 357, .inl rrow)), (nw, .inl (tc 0, 357, .inl row)), (ik, .inl (tc 2, 2, .inl isk))] sz)) 0 0 (va_A [(mo, .inr (8, [.int rf, .ref sc, .int ss, .int sp, .int ig, .int lf, .ref rd, .ref nw, .ref tr, .ref di, .int ac, .ref kp, .ref ik])), (sc, .inl (tc 0, 120, .inl scr)), (rd, .inl (tc 0, 357, .inl rrow)), (nw, .inl (tc 0, 357, .inl row)), (ik, .inl (tc 2, 2, .inl isk))] sz) := by
  refine fc_ofWi (own := RX8) (cc := cX8_load) (maxL := 1) (W1 := (fun (u : Int32 × Int32 × Int32 × Int32 × Int32 × (Nat → Int32) × (Nat → Int32) × (Nat → Int32)) => [(mo, .inr (8, [.int (u.1), .ref sc, .int ss, .int (u.2.1), .int (u.2.2.1), .int (u.2.2.2.1), .ref rd, .ref nw, .ref tr, .ref di, .int (u.2.2.2.2.1), .ref kp, .ref ik])), (sc, .inl (tc 0, 120, .inl scr)), (rd, .inl (tc 0, 357, .inl (u.2.2.2.2.2.1))), (nw, .inl (tc 0, 357, .inl (u.2.2.2.2.2.2.1))), (ik, .inl (tc 2, 2, .inl (u.2.2.2.2.2.2.2)))])) rfl (by decide) rfl (Nat.le_of_ble_eq_true rfl) ?_
  intro p e s m args below meth c A Q hx hb hml hown hts hK hE hP hD hS hA hin hret ls hl
  have hl : lv_has ls 1 [(0, .ref mo)] := hl
  refine lv_aload_n hx hb dX8_load_0 rfl (lv_at hl 0 rfl) ?_
  refine lv_aload_n hx hb dX8_load_1 rfl (lv_at hl 0 rfl) ?_
  refine fc_goi (isC := [0, 1, 2]) (isR := [3, 4]) (wc := [(mo, .inr (8, [.int rf, .ref sc, .int ss, .int sp, .int ig, .int lf, .ref rd, .ref nw, .ref tr, .ref di, .int ac, .ref kp, .ref ik])), (sc, .inl (tc 0, 120, .inl scr)), (rd, .inl (tc 0, 357, .inl rrow))]) (wr := [(nw, .inl (tc 0, 357, .inl row)), (ik, .inl (tc 2, 2, .inl isk))]) hP hD hS hA rfl rfl (by decide) (by decide) (fc_runV (isC := [0, 1, 2]) (As := []) (rest := [.ref mo]) hx hb hml hown hts hK hE hP hD hS hA rfl (by decide) (c_X8_readText l D tc mo sc rd nw tr di kp ik rf ss sp ig lf ac scr rrow _ (by have l_0 : (0 : Int32).toInt = 0 := (by decide); have l_1 : (1 : Int32).toInt = 1 := (by decide); have l_2 : (2 : Int32).toInt = 2 := (by decide); have l_3 : (3 : Int32).toInt = 3 := (by decide); have l_4 : (4 : Int32).toInt = 4 := (by decide); (try simp only [fc_le, fc_lt, fc_eq]); omega)) (cwV 0 hts gX8_load_X8_readText rfl rfl rfl hd_X8_readText ⟨Nat.le_of_ble_eq_true rfl, Nat.le_of_ble_eq_true rfl⟩) (ci := 8) rfl rfl rfl rfl hl.1 rfl (Nat.le_of_ble_eq_true rfl) dX8_load_2 ⟨Nat.le_of_ble_eq_true rfl, Nat.le_of_ble_eq_true rfl⟩) (fun r_1 u_1 H locs hw_1 hP hD hS => ?_)
  obtain ⟨sp_1, ig_1, lf_1, rrow_1⟩ := u_1
  try dsimp only at hw_1
  have hP : va_P D vwCl [(nw, .inl (tc 0, 357, .inl row)), (ik, .inl (tc 2, 2, .inl isk)), (mo, .inr (8, [.int rf, .ref sc, .int ss, .int sp_1, .int ig_1, .int lf_1, .ref rd, .ref nw, .ref tr, .ref di, .int ac, .ref kp, .ref ik])), (sc, .inl (tc 0, 120, .inl scr)), (rd, .inl (tc 0, 357, .inl rrow_1))] H := hP
  have hD : va_D A [(nw, .inl (tc 0, 357, .inl row)), (ik, .inl (tc 2, 2, .inl isk)), (mo, .inr (8, [.int rf, .ref sc, .int ss, .int sp_1, .int ig_1, .int lf_1, .ref rd, .ref nw, .ref tr, .ref di, .int ac, .ref kp, .ref ik])), (sc, .inl (tc 0, 120, .inl scr)), (rd, .inl (tc 0, 357, .inl rrow_1))] := hD
  refine lv_iconst (v := (-1)) hx hb dX8_load_5 (by decide) ?_
  refine lv_icmp_ne (tgt := 13) hx hb dX8_load_6 (by decide) (fun c_2 => ?_) (fun c_2 => ?_)
  · refine lv_iconst (v := 1) hx hb dX8_load_13 (by decide) ?_
    refine fc_goi (isC := [2]) (isR := [0, 1, 3, 4]) (wc := [(mo, .inr (8, [.int rf, .ref sc, .int ss, .int sp_1, .int ig_1, .int lf_1, .ref rd, .ref nw, .ref tr, .ref di, .int ac, .ref kp, .ref ik]))]) (wr := [(nw, .inl (tc 0, 357, .inl row)), (ik, .inl (tc 2, 2, .inl isk)), (sc, .inl (tc 0, 120, .inl scr)), (rd, .inl (tc 0, 357, .inl rrow_1))]) hP hD hS hA rfl rfl (by decide) (by decide) (fc_runV (isC := [2]) (As := [.int 1]) (rest := []) hx hb hml hown hts hK hE hP hD hS hA rfl (by decide) (c_X8_refused l D tc mo sc rd nw tr di kp ik rf ss sp_1 ig_1 lf_1 ac 1 _ ) (cwV 1 hts gX8_load_X8_refused rfl rfl rfl hd_X8_refused ⟨Nat.le_of_ble_eq_true rfl, Nat.le_of_ble_eq_true rfl⟩) (ci := 8) rfl rfl rfl rfl hl.1 rfl (Nat.le_of_ble_eq_true rfl) dX8_load_14 ⟨Nat.le_of_ble_eq_true rfl, Nat.le_of_ble_eq_true rfl⟩) (fun r_3 u_3 H locs hw_3 hP hD hS => ?_)
    obtain ⟨rf_3, rfl⟩ : ∃ z, z = u_3 := ⟨_, rfl⟩
    obtain ⟨z1_3, z2_3⟩ := fx_ref1 hw_3
    subst z1_3
    subst z2_3
    have hP : va_P D vwCl [(nw, .inl (tc 0, 357, .inl row)), (ik, .inl (tc 2, 2, .inl isk)), (sc, .inl (tc 0, 120, .inl scr)), (rd, .inl (tc 0, 357, .inl rrow_1)), (mo, .inr (8, [.int 1, .ref sc, .int ss, .int sp_1, .int ig_1, .int lf_1, .ref rd, .ref nw, .ref tr, .ref di, .int ac, .ref kp, .ref ik]))] H := hP
    have hD : va_D A [(nw, .inl (tc 0, 357, .inl row)), (ik, .inl (tc 2, 2, .inl isk)), (sc, .inl (tc 0, 120, .inl scr)), (rd, .inl (tc 0, 357, .inl rrow_1)), (mo, .inr (8, [.int 1, .ref sc, .int ss, .int sp_1, .int ig_1, .int lf_1, .ref rd, .ref nw, .ref tr, .ref di, .int ac, .ref kp, .ref ik]))] := hD
    refine lv_if_eq (tgt := 22) hx hb dX8_load_17 (by decide) (fun c_4 => ?_) (fun c_4 => ?_)
    · exact absurd c_4 (by decide)
    · refine lv_iconst (v := 0) hx hb dX8_load_20 (by decide) ?_
      exact hret _ _ (0) (1, sp_1, ig_1, lf_1, ac, rrow_1, row, isk) _ _ (by rw [mX8_load]; rw [hw_1]; rw [mX8_load_C1]; (try dsimp only); rw [if_neg c_2]; (first | done | rfl)) (hP.sub [4, 2, 3, 0, 1] rfl) (hD.sub [4, 2, 3, 0, 1] (by decide) rfl) hS dX8_load_21
  · refine lv_iconst (v := 0) hx hb dX8_load_9 (by decide) ?_
    refine lv_goto (tgt := 14) hx hb dX8_load_10 (by decide) ?_
    refine fc_goi (isC := [2]) (isR := [0, 1, 3, 4]) (wc := [(mo, .inr (8, [.int rf, .ref sc, .int ss, .int sp_1, .int ig_1, .int lf_1, .ref rd, .ref nw, .ref tr, .ref di, .int ac, .ref kp, .ref ik]))]) (wr := [(nw, .inl (tc 0, 357, .inl row)), (ik, .inl (tc 2, 2, .inl isk)), (sc, .inl (tc 0, 120, .inl scr)), (rd, .inl (tc 0, 357, .inl rrow_1))]) hP hD hS hA rfl rfl (by decide) (by decide) (fc_runV (isC := [2]) (As := [.int 0]) (rest := []) hx hb hml hown hts hK hE hP hD hS hA rfl (by decide) (c_X8_refused l D tc mo sc rd nw tr di kp ik rf ss sp_1 ig_1 lf_1 ac 0 _ ) (cwV 1 hts gX8_load_X8_refused rfl rfl rfl hd_X8_refused ⟨Nat.le_of_ble_eq_true rfl, Nat.le_of_ble_eq_true rfl⟩) (ci := 8) rfl rfl rfl rfl hl.1 rfl (Nat.le_of_ble_eq_true rfl) dX8_load_14 ⟨Nat.le_of_ble_eq_true rfl, Nat.le_of_ble_eq_true rfl⟩) (fun r_5 u_5 H locs hw_5 hP hD hS => ?_)
    obtain ⟨rf_5, rfl⟩ : ∃ z, z = u_5 := ⟨_, rfl⟩
    obtain ⟨z1_5, z2_5⟩ := fx_ref0 hw_5
    subst z1_5
    subst z2_5
    have hP : va_P D vwCl [(nw, .inl (tc 0, 357, .inl row)), (ik, .inl (tc 2, 2, .inl isk)), (sc, .inl (tc 0, 120, .inl scr)), (rd, .inl (tc 0, 357, .inl rrow_1)), (mo, .inr (8, [.int 0, .ref sc, .int ss, .int sp_1, .int ig_1, .int lf_1, .ref rd, .ref nw, .ref tr, .ref di, .int ac, .ref kp, .ref ik]))] H := hP
    have hD : va_D A [(nw, .inl (tc 0, 357, .inl row)), (ik, .inl (tc 2, 2, .inl isk)), (sc, .inl (tc 0, 120, .inl scr)), (rd, .inl (tc 0, 357, .inl rrow_1)), (mo, .inr (8, [.int 0, .ref sc, .int ss, .int sp_1, .int ig_1, .int lf_1, .ref rd, .ref nw, .ref tr, .ref di, .int ac, .ref kp, .ref ik]))] := hD
    refine lv_if_eq (tgt := 22) hx hb dX8_load_17 (by decide) (fun c_6 => ?_) (fun c_6 => ?_)
    · refine lv_aload_n hx hb dX8_load_22 rfl (lv_at hl 0 rfl) ?_
      refine va_get (D := D) (ci := 8) (v := .ref rd) (C := RX8) (T := TX8) (N := 13) hx hb hts iX8_load_X8 hown hK hP 4 rfl rfl 6 (by decide) (hts (.fieldLink RX8 13 "FrameCardModel" "read" "[I") (by decide +kernel)) (fun _ h9 => h9) rfl dX8_load_23 ?_
      refine lv_iconst (v := 0) hx hb dX8_load_26 (by decide) ?_
      refine lv_aload_n hx hb dX8_load_27 rfl (lv_at hl 0 rfl) ?_
      refine va_get (D := D) (ci := 8) (v := .ref nw) (C := RX8) (T := TX8) (N := 13) hx hb hts iX8_load_X8 hown hK hP 4 rfl rfl 7 (by decide) (hts (.fieldLink RX8 16 "FrameCardModel" "now" "[I") (by decide +kernel)) (fun _ h9 => h9) rfl dX8_load_28 ?_
      refine lv_iconst (v := 0) hx hb dX8_load_31 (by decide) ?_
      refine lv_sipush (v := 357) hx hb dX8_load_32 (by decide) ?_
      refine fc_gov (isC := [3, 0]) (isR := [1, 2, 4]) (wc := [(rd, .inl (tc 0, 357, .inl rrow_1)), (nw, .inl (tc 0, 357, .inl row))]) (wr := [(ik, .inl (tc 2, 2, .inl isk)), (sc, .inl (tc 0, 120, .inl scr)), (mo, .inr (8, [.int 0, .ref sc, .int ss, .int sp_1, .int ig_1, .int lf_1, .ref rd, .ref nw, .ref tr, .ref di, .int ac, .ref kp, .ref ik]))]) hP hD hS hA rfl rfl (by decide) (by decide) (fc_runS (isC := [3, 0]) (As := [.ref rd, .int 0, .ref nw, .int 0, .int 357]) (rest := []) hx hb hml hown hts hK hE hP hD hS hA rfl (by decide) (c_X8_copy l D tc rd 357 rrow_1 nw 357 row 0 0 357 _ (by have l_mm1m : ((-1) : Int32).toInt = (-1) := (by decide); have l_0 : (0 : Int32).toInt = 0 := (by decide); have l_1 : (1 : Int32).toInt = 1 := (by decide); have l_2 : (2 : Int32).toInt = 2 := (by decide); have l_3 : (3 : Int32).toInt = 3 := (by decide); have l_357 : (357 : Int32).toInt = 357 := (by decide); have l_4 : (4 : Int32).toInt = 4 := (by decide); have qc_2 := c_2; (try simp only [fc_le, fc_lt, fc_eq] at qc_2); (try simp only [fc_le, fc_lt, fc_eq]); omega) (by have l_mm1m : ((-1) : Int32).toInt = (-1) := (by decide); have l_0 : (0 : Int32).toInt = 0 := (by decide); have l_1 : (1 : Int32).toInt = 1 := (by decide); have l_2 : (2 : Int32).toInt = 2 := (by decide); have l_3 : (3 : Int32).toInt = 3 := (by decide); have l_357 : (357 : Int32).toInt = 357 := (by decide); have l_4 : (4 : Int32).toInt = 4 := (by decide); have qc_2 := c_2; (try simp only [fc_le, fc_lt, fc_eq] at qc_2); (try simp only [fc_le, fc_lt, fc_eq]); omega) (by have l_mm1m : ((-1) : Int32).toInt = (-1) := (by decide); have l_0 : (0 : Int32).toInt = 0 := (by decide); have l_1 : (1 : Int32).toInt = 1 := (by decide); have l_2 : (2 : Int32).toInt = 2 := (by decide); have l_3 : (3 : Int32).toInt = 3 := (by decide); have l_357 : (357 : Int32).toInt = 357 := (by decide); have l_4 : (4 : Int32).toInt = 4 := (by decide); have qc_2 := c_2; (try simp only [fc_le, fc_lt, fc_eq] at qc_2); (try simp only [fc_le, fc_lt, fc_eq]); omega)) (cwS 5 hts gX8_load_X8_copy rfl rfl rfl hd_X8_copy ⟨Nat.le_of_ble_eq_true rfl, Nat.le_of_ble_eq_true rfl⟩) rfl hl.1 rfl (Nat.le_of_ble_eq_true rfl) dX8_load_35 ⟨Nat.le_of_ble_eq_true rfl, Nat.le_of_ble_eq_true rfl⟩) (fun u_7 H locs hw_7 hP hD hS => ?_)
      obtain ⟨g_7, rfl⟩ : ∃ z, z = u_7 := ⟨_, rfl⟩
      try dsimp only at hw_7
      have hP : va_P D vwCl [(ik, .inl (tc 2, 2, .inl isk)), (sc, .inl (tc 0, 120, .inl scr)), (mo, .inr (8, [.int 0, .ref sc, .int ss, .int sp_1, .int ig_1, .int lf_1, .ref rd, .ref nw, .ref tr, .ref di, .int ac, .ref kp, .ref ik])), (rd, .inl (tc 0, 357, .inl rrow_1)), (nw, .inl (tc 0, 357, .inl g_7))] H := hP
      have hD : va_D A [(ik, .inl (tc 2, 2, .inl isk)), (sc, .inl (tc 0, 120, .inl scr)), (mo, .inr (8, [.int 0, .ref sc, .int ss, .int sp_1, .int ig_1, .int lf_1, .ref rd, .ref nw, .ref tr, .ref di, .int ac, .ref kp, .ref ik])), (rd, .inl (tc 0, 357, .inl rrow_1)), (nw, .inl (tc 0, 357, .inl g_7))] := hD
      refine lv_aload_n hx hb dX8_load_38 rfl (lv_at hl 0 rfl) ?_
      refine lv_iconst (v := 0) hx hb dX8_load_39 (by decide) ?_
      refine va_put (D := D) (ci := 8) (v := .int 0) (ty := .int) (C := RX8) (T := TX8) (N := 13) hx hb hts iX8_load_X8 tyX8 tyX8_ok nmX8 hown hK hP hD hS 2 rfl rfl 10 (by decide) (hts (.fieldLink RX8 42 "FrameCardModel" "acts" "I") (by decide +kernel)) (fun _ h9 => h9) rfl (by decide +kernel) rfl rfl (Nat.le_of_ble_eq_true rfl) dX8_load_40 (fun H locs hP hD hS => ?_)
      have hP : va_P D vwCl [(ik, .inl (tc 2, 2, .inl isk)), (sc, .inl (tc 0, 120, .inl scr)), (mo, .inr (8, [.int 0, .ref sc, .int ss, .int sp_1, .int ig_1, .int lf_1, .ref rd, .ref nw, .ref tr, .ref di, .int 0, .ref kp, .ref ik])), (rd, .inl (tc 0, 357, .inl rrow_1)), (nw, .inl (tc 0, 357, .inl g_7))] H := hP
      have hD : va_D A [(ik, .inl (tc 2, 2, .inl isk)), (sc, .inl (tc 0, 120, .inl scr)), (mo, .inr (8, [.int 0, .ref sc, .int ss, .int sp_1, .int ig_1, .int lf_1, .ref rd, .ref nw, .ref tr, .ref di, .int 0, .ref kp, .ref ik])), (rd, .inl (tc 0, 357, .inl rrow_1)), (nw, .inl (tc 0, 357, .inl g_7))] := hD
      refine lv_aload_n hx hb dX8_load_43 rfl (lv_at hl 0 rfl) ?_
      refine va_get (D := D) (ci := 8) (v := .ref ik) (C := RX8) (T := TX8) (N := 13) hx hb hts iX8_load_X8 hown hK hP 2 rfl rfl 12 (by decide) (hts (.fieldLink RX8 28 "FrameCardModel" "isKept" "[Z") (by decide +kernel)) (fun _ h9 => h9) rfl dX8_load_44 ?_
      refine lv_iconst (v := 0) hx hb dX8_load_47 (by decide) ?_
      refine lv_iconst (v := 0) hx hb dX8_load_48 (by decide) ?_
      refine va_zast (D := D) hx hb hK hP hD hS 0 2 rfl rfl (vp_in_iff.mpr (by decide)) dX8_load_49 (fun H locs hP hD hS => ?_)
      have hP : va_P D vwCl [(ik, .inl (tc 2, 2, .inl (upd isk (0 : Int32).toNatClampNeg (vp_nar .boolean 0)))), (sc, .inl (tc 0, 120, .inl scr)), (mo, .inr (8, [.int 0, .ref sc, .int ss, .int sp_1, .int ig_1, .int lf_1, .ref rd, .ref nw, .ref tr, .ref di, .int 0, .ref kp, .ref ik])), (rd, .inl (tc 0, 357, .inl rrow_1)), (nw, .inl (tc 0, 357, .inl g_7))] H := hP
      have hD : va_D A [(ik, .inl (tc 2, 2, .inl (upd isk (0 : Int32).toNatClampNeg (vp_nar .boolean 0)))), (sc, .inl (tc 0, 120, .inl scr)), (mo, .inr (8, [.int 0, .ref sc, .int ss, .int sp_1, .int ig_1, .int lf_1, .ref rd, .ref nw, .ref tr, .ref di, .int 0, .ref kp, .ref ik])), (rd, .inl (tc 0, 357, .inl rrow_1)), (nw, .inl (tc 0, 357, .inl g_7))] := hD
      refine lv_aload_n hx hb dX8_load_50 rfl (lv_at hl 0 rfl) ?_
      refine va_get (D := D) (ci := 8) (v := .ref ik) (C := RX8) (T := TX8) (N := 13) hx hb hts iX8_load_X8 hown hK hP 2 rfl rfl 12 (by decide) (hts (.fieldLink RX8 28 "FrameCardModel" "isKept" "[Z") (by decide +kernel)) (fun _ h9 => h9) rfl dX8_load_51 ?_
      refine lv_iconst (v := 1) hx hb dX8_load_54 (by decide) ?_
      refine lv_iconst (v := 0) hx hb dX8_load_55 (by decide) ?_
      refine va_zast (D := D) hx hb hK hP hD hS 0 2 rfl rfl (vp_in_iff.mpr (by decide)) dX8_load_56 (fun H locs hP hD hS => ?_)
      have hP : va_P D vwCl [(ik, .inl (tc 2, 2, .inl (upd (upd isk (0 : Int32).toNatClampNeg (vp_nar .boolean 0)) (1 : Int32).toNatClampNeg (vp_nar .boolean 0)))), (sc, .inl (tc 0, 120, .inl scr)), (mo, .inr (8, [.int 0, .ref sc, .int ss, .int sp_1, .int ig_1, .int lf_1, .ref rd, .ref nw, .ref tr, .ref di, .int 0, .ref kp, .ref ik])), (rd, .inl (tc 0, 357, .inl rrow_1)), (nw, .inl (tc 0, 357, .inl g_7))] H := hP
      have hD : va_D A [(ik, .inl (tc 2, 2, .inl (upd (upd isk (0 : Int32).toNatClampNeg (vp_nar .boolean 0)) (1 : Int32).toNatClampNeg (vp_nar .boolean 0)))), (sc, .inl (tc 0, 120, .inl scr)), (mo, .inr (8, [.int 0, .ref sc, .int ss, .int sp_1, .int ig_1, .int lf_1, .ref rd, .ref nw, .ref tr, .ref di, .int 0, .ref kp, .ref ik])), (rd, .inl (tc 0, 357, .inl rrow_1)), (nw, .inl (tc 0, 357, .inl g_7))] := hD
      refine lv_aload_n hx hb dX8_load_57 rfl (lv_at hl 0 rfl) ?_
      refine va_get (D := D) (ci := 8) (v := .int lf_1) (C := RX8) (T := TX8) (N := 13) hx hb hts iX8_load_X8 hown hK hP 2 rfl rfl 5 (by decide) (hts (.fieldLink RX8 129 "FrameCardModel" "leftOut" "I") (by decide +kernel)) (fun _ h9 => h9) rfl dX8_load_58 ?_
      exact hret _ _ (lf_1) (0, sp_1, ig_1, lf_1, 0, rrow_1, g_7, (upd (upd isk (0 : Int32).toNatClampNeg (vp_nar .boolean 0)) (1 : Int32).toNatClampNeg (vp_nar .boolean 0))) _ _ (by rw [mX8_load]; rw [hw_1]; rw [mX8_load_C1]; (try dsimp only); rw [if_pos c_2]; rw [hw_7]; (try dsimp only); (first | done | rfl)) (hP.sub [2, 1, 3, 4, 0] rfl) (hD.sub [2, 1, 3, 4, 0] (by decide) rfl) hS dX8_load_61
    · exact absurd (by decide) c_6
