/-! Text -/
noncomputable def mX6_add (signs : Nat → Int32) (len : Int32) (p0 : Int32) : Int32 × (Nat → Int32) :=
  if len < 0 then
    (len, signs)
  else
    if 120 ≤ len then
      (len, signs)
    else
      ((len + 1), (upd signs len.toNatClampNeg (vp_nar .char (p0.toUInt32 % 65536).toInt32)))
set_option maxRecDepth 20000 in
theorem iX6_add_X6 : ∀ w ∈ wsX60, w ∈ wsX6_add := by decide +kernel
abbrev rmX6_add : Room := { frames := 0, cells := 0, slots := 0, locals := 0 }
set_option maxHeartbeats 4000000 in
set_option maxRecDepth 100000 in
theorem c_X6_add (l : Launch) (D : va_G) (tc : Nat → ClassId) (h0 : Nat) (hs : Nat) (signs : Nat → Int32) (len : Int32) (p0 : Int32) (sz : Nat) : Met l yX6_add wsX6_add rmX6_add (va_Pc [.ref h0, .int p0] (fcB D tc [(h0, .inr (6, [.ref hs, .int len])), (hs, .inl (tc 1, 120, .inl signs))] sz)) (va_Qv (fun (u : Int32 × (Nat → Int32)) => mX6_add signs len p0 = u) (fun u t => fcO D (va_A [(h0, .inr (6, [.ref hs, .int len])), (hs, .inl (tc 1, 120, .inl signs))] sz) ((fun (u : Int32 × (Nat → Int32)) => [(h0, .inr (6, [.ref hs, .int (u.1)])), (hs, .inl (tc 1, 120, .inl (u.2)))]) u) t) (va_A [(h0, .inr (6, [.ref hs, .int len])), (hs, .inl (tc 1, 120, .inl signs))] sz)) 0 0 (va_A [(h0, .inr (6, [.ref hs, .int len])), (hs, .inl (tc 1, 120, .inl signs))] sz) := by
  refine fc_ofWv (own := RX6) (cc := cX6_add) (maxL := 2) (W1 := (fun (u : Int32 × (Nat → Int32)) => [(h0, .inr (6, [.ref hs, .int (u.1)])), (hs, .inl (tc 1, 120, .inl (u.2)))])) rfl (by decide) rfl (Nat.le_of_ble_eq_true rfl) ?_
  intro p e s m args below meth c A Q hx hb hml hown hts hK hE hP hD hS hA hin hret ls hl
  have hl : lv_has ls 2 [(0, .ref h0), (1, .int p0)] := hl
  refine lv_aload_n hx hb dX6_add_0 rfl (lv_at hl 0 rfl) ?_
  refine va_get (D := D) (ci := 6) (v := .int len) (C := RX6) (T := TX6) (N := 2) hx hb hts iX6_add_X6 hown hK hP 0 rfl rfl 1 (by decide) (hts (.fieldLink RX6 15 "FrameCard$Text" "length" "I") (by decide +kernel)) (fun _ h9 => h9) rfl dX6_add_1 ?_
  refine lv_if_lt (tgt := 37) hx hb dX6_add_4 (by decide) (fun c_1 => ?_) (fun c_1 => ?_)
  · exact hret _ _ (len, signs) _ _ (by rw [mX6_add]; (try dsimp only); rw [if_pos c_1]; (first | done | rfl)) (hP.sub [0, 1] rfl) (hD.sub [0, 1] (by decide) rfl) hS dX6_add_37
  · refine lv_aload_n hx hb dX6_add_7 rfl (lv_at hl 0 rfl) ?_
    refine va_get (D := D) (ci := 6) (v := .int len) (C := RX6) (T := TX6) (N := 2) hx hb hts iX6_add_X6 hown hK hP 0 rfl rfl 1 (by decide) (hts (.fieldLink RX6 15 "FrameCard$Text" "length" "I") (by decide +kernel)) (fun _ h9 => h9) rfl dX6_add_8 ?_
    refine lv_bipush (v := 120) hx hb dX6_add_11 (by decide) ?_
    refine lv_icmp_ge (tgt := 37) hx hb dX6_add_13 (by decide) (fun c_2 => ?_) (fun c_2 => ?_)
    · exact hret _ _ (len, signs) _ _ (by rw [mX6_add]; (try dsimp only); rw [if_neg c_1]; rw [if_pos c_2]; (first | done | rfl)) (hP.sub [0, 1] rfl) (hD.sub [0, 1] (by decide) rfl) hS dX6_add_37
    · refine lv_aload_n hx hb dX6_add_16 rfl (lv_at hl 0 rfl) ?_
      refine va_get (D := D) (ci := 6) (v := .ref hs) (C := RX6) (T := TX6) (N := 2) hx hb hts iX6_add_X6 hown hK hP 0 rfl rfl 0 (by decide) (hts (.fieldLink RX6 9 "FrameCard$Text" "signs" "[C") (by decide +kernel)) (fun _ h9 => h9) rfl dX6_add_17 ?_
      refine lv_aload_n hx hb dX6_add_20 rfl (lv_at hl 0 rfl) ?_
      refine va_get (D := D) (ci := 6) (v := .int len) (C := RX6) (T := TX6) (N := 2) hx hb hts iX6_add_X6 hown hK hP 0 rfl rfl 1 (by decide) (hts (.fieldLink RX6 15 "FrameCard$Text" "length" "I") (by decide +kernel)) (fun _ h9 => h9) rfl dX6_add_21 ?_
      refine lv_iload_n hx hb dX6_add_24 rfl (lv_at hl 1 rfl) ?_
      refine lv_i2c hx hb dX6_add_25 rfl ?_
      refine va_cast (D := D) hx hb hK hP hD hS 1 1 rfl rfl (by have l_0 : (0 : Int32).toInt = 0 := (by decide); have l_120 : (120 : Int32).toInt = 120 := (by decide); have qc_1 := c_1; (try simp only [fc_le, fc_lt, fc_eq] at qc_1); have qc_2 := c_2; (try simp only [fc_le, fc_lt, fc_eq] at qc_2); rw [vp_in_iff]; omega) dX6_add_26 (fun H locs hP hD hS => ?_)
      have hP : va_P D vwCl [(h0, .inr (6, [.ref hs, .int len])), (hs, .inl (tc 1, 120, .inl (upd signs len.toNatClampNeg (vp_nar .char (p0.toUInt32 % 65536).toInt32))))] H := hP
      have hD : va_D A [(h0, .inr (6, [.ref hs, .int len])), (hs, .inl (tc 1, 120, .inl (upd signs len.toNatClampNeg (vp_nar .char (p0.toUInt32 % 65536).toInt32))))] := hD
      refine lv_aload_n hx hb dX6_add_27 rfl (lv_at hl 0 rfl) ?_
      refine lv_dup hx hb dX6_add_28 rfl ?_
      refine va_get (D := D) (ci := 6) (v := .int len) (C := RX6) (T := TX6) (N := 2) hx hb hts iX6_add_X6 hown hK hP 0 rfl rfl 1 (by decide) (hts (.fieldLink RX6 15 "FrameCard$Text" "length" "I") (by decide +kernel)) (fun _ h9 => h9) rfl dX6_add_29 ?_
      refine lv_iconst (v := 1) hx hb dX6_add_32 (by decide) ?_
      refine lv_iadd hx hb dX6_add_33 ?_
      refine va_put (D := D) (ci := 6) (v := .int (len + 1)) (ty := .int) (C := RX6) (T := TX6) (N := 2) hx hb hts iX6_add_X6 tyX6 tyX6_ok nmX6 hown hK hP hD hS 0 rfl rfl 1 (by decide) (hts (.fieldLink RX6 15 "FrameCard$Text" "length" "I") (by decide +kernel)) (fun _ h9 => h9) rfl (by decide +kernel) rfl rfl (Nat.le_of_ble_eq_true rfl) dX6_add_34 (fun H locs hP hD hS => ?_)
      have hP : va_P D vwCl [(h0, .inr (6, [.ref hs, .int (len + 1)])), (hs, .inl (tc 1, 120, .inl (upd signs len.toNatClampNeg (vp_nar .char (p0.toUInt32 % 65536).toInt32))))] H := hP
      have hD : va_D A [(h0, .inr (6, [.ref hs, .int (len + 1)])), (hs, .inl (tc 1, 120, .inl (upd signs len.toNatClampNeg (vp_nar .char (p0.toUInt32 % 65536).toInt32))))] := hD
      exact hret _ _ ((len + 1), (upd signs len.toNatClampNeg (vp_nar .char (p0.toUInt32 % 65536).toInt32))) _ _ (by rw [mX6_add]; (try dsimp only); rw [if_neg c_1]; rw [if_neg c_2]; (first | done | rfl)) (hP.sub [0, 1] rfl) (hD.sub [0, 1] (by decide) rfl) hS dX6_add_37
noncomputable def mX6_signAt (signs : Nat → Int32) (len : Int32) (p0 : Int32) : Int32 :=
  if p0 < 0 then
    (-1)
  else
    if len ≤ p0 then
      (-1)
    else
      if 120 ≤ p0 then
        (-1)
      else
        (signs p0.toNatClampNeg)
set_option maxRecDepth 20000 in
theorem iX6_signAt_X6 : ∀ w ∈ wsX60, w ∈ wsX6_signAt := by decide +kernel
abbrev rmX6_signAt : Room := { frames := 0, cells := 0, slots := 0, locals := 0 }
set_option maxHeartbeats 4000000 in
set_option maxRecDepth 100000 in
theorem c_X6_signAt (l : Launch) (D : va_G) (tc : Nat → ClassId) (h0 : Nat) (hs : Nat) (signs : Nat → Int32) (len : Int32) (p0 : Int32) (sz : Nat) : Met l yX6_signAt wsX6_signAt rmX6_signAt (va_Pc [.ref h0, .int p0] (fcB D tc [(h0, .inr (6, [.ref hs, .int len])), (hs, .inl (tc 1, 120, .inl signs))] sz)) (va_Qi (fun (r : Int32) (_ : Unit) => mX6_signAt signs len p0 = r) (fun u t => fcO D (va_A [(h0, .inr (6, [.ref hs, .int len])), (hs, .inl (tc 1, 120, .inl signs))] sz) ((fun (_ : Unit) => [(h0, .inr (6, [.ref hs, .int len])), (hs, .inl (tc 1, 120, .inl signs))]) u) t) (va_A [(h0, .inr (6, [.ref hs, .int len])), (hs, .inl (tc 1, 120, .inl signs))] sz)) 0 0 (va_A [(h0, .inr (6, [.ref hs, .int len])), (hs, .inl (tc 1, 120, .inl signs))] sz) := by
  refine fc_ofWi (own := RX6) (cc := cX6_signAt) (maxL := 2) (W1 := (fun (_ : Unit) => [(h0, .inr (6, [.ref hs, .int len])), (hs, .inl (tc 1, 120, .inl signs))])) rfl (by decide) rfl (Nat.le_of_ble_eq_true rfl) ?_
  intro p e s m args below meth c A Q hx hb hml hown hts hK hE hP hD hS hA hin hret ls hl
  have hl : lv_has ls 2 [(0, .ref h0), (1, .int p0)] := hl
  refine lv_iload_n hx hb dX6_signAt_0 rfl (lv_at hl 1 rfl) ?_
  refine lv_if_lt (tgt := 27) hx hb dX6_signAt_1 (by decide) (fun c_1 => ?_) (fun c_1 => ?_)
  · refine lv_iconst (v := (-1)) hx hb dX6_signAt_27 (by decide) ?_
    exact hret _ _ (-1) () _ _ (by rw [mX6_signAt]; (try dsimp only); rw [if_pos c_1]; (first | done | rfl)) (hP.sub [0, 1] rfl) (hD.sub [0, 1] (by decide) rfl) hS dX6_signAt_28
  · refine lv_iload_n hx hb dX6_signAt_4 rfl (lv_at hl 1 rfl) ?_
    refine lv_aload_n hx hb dX6_signAt_5 rfl (lv_at hl 0 rfl) ?_
    refine va_get (D := D) (ci := 6) (v := .int len) (C := RX6) (T := TX6) (N := 2) hx hb hts iX6_signAt_X6 hown hK hP 0 rfl rfl 1 (by decide) (hts (.fieldLink RX6 15 "FrameCard$Text" "length" "I") (by decide +kernel)) (fun _ h9 => h9) rfl dX6_signAt_6 ?_
    refine lv_icmp_ge (tgt := 27) hx hb dX6_signAt_9 (by decide) (fun c_2 => ?_) (fun c_2 => ?_)
    · refine lv_iconst (v := (-1)) hx hb dX6_signAt_27 (by decide) ?_
      exact hret _ _ (-1) () _ _ (by rw [mX6_signAt]; (try dsimp only); rw [if_neg c_1]; rw [if_pos c_2]; (first | done | rfl)) (hP.sub [0, 1] rfl) (hD.sub [0, 1] (by decide) rfl) hS dX6_signAt_28
    · refine lv_iload_n hx hb dX6_signAt_12 rfl (lv_at hl 1 rfl) ?_
      refine lv_bipush (v := 120) hx hb dX6_signAt_13 (by decide) ?_
      refine lv_icmp_ge (tgt := 27) hx hb dX6_signAt_15 (by decide) (fun c_3 => ?_) (fun c_3 => ?_)
      · refine lv_iconst (v := (-1)) hx hb dX6_signAt_27 (by decide) ?_
        exact hret _ _ (-1) () _ _ (by rw [mX6_signAt]; (try dsimp only); rw [if_neg c_1]; rw [if_neg c_2]; rw [if_pos c_3]; (first | done | rfl)) (hP.sub [0, 1] rfl) (hD.sub [0, 1] (by decide) rfl) hS dX6_signAt_28
      · refine lv_aload_n hx hb dX6_signAt_18 rfl (lv_at hl 0 rfl) ?_
        refine va_get (D := D) (ci := 6) (v := .ref hs) (C := RX6) (T := TX6) (N := 2) hx hb hts iX6_signAt_X6 hown hK hP 0 rfl rfl 0 (by decide) (hts (.fieldLink RX6 9 "FrameCard$Text" "signs" "[C") (by decide +kernel)) (fun _ h9 => h9) rfl dX6_signAt_19 ?_
        refine lv_iload_n hx hb dX6_signAt_22 rfl (lv_at hl 1 rfl) ?_
        refine va_cald (D := D) hx hb hK hP 1 1 rfl rfl (by have l_0 : (0 : Int32).toInt = 0 := (by decide); have l_120 : (120 : Int32).toInt = 120 := (by decide); have qc_1 := c_1; (try simp only [fc_le, fc_lt, fc_eq] at qc_1); have qc_2 := c_2; (try simp only [fc_le, fc_lt, fc_eq] at qc_2); have qc_3 := c_3; (try simp only [fc_le, fc_lt, fc_eq] at qc_3); rw [vp_in_iff]; omega) dX6_signAt_23 ?_
        refine lv_goto (tgt := 28) hx hb dX6_signAt_24 (by decide) ?_
        exact hret _ _ (signs p0.toNatClampNeg) () _ _ (by rw [mX6_signAt]; (try dsimp only); rw [if_neg c_1]; rw [if_neg c_2]; rw [if_neg c_3]; (first | done | rfl)) (hP.sub [0, 1] rfl) (hD.sub [0, 1] (by decide) rfl) hS dX6_signAt_28
theorem hd_X6_signAt : yX6_signAt.cls = RX6 ∧ yX6_signAt.cls ≠ "java/lang/invoke/MethodHandle" ∧ yX6_signAt.cls ≠ "java/lang/invoke/VarHandle" ∧ (parseMethodDescriptor yX6_signAt.desc).map (fun d => d.parameters.length) = some 1 := by decide +kernel
theorem hd_X6_signAtn : yX6_signAt.cls ≠ "java/lang/invoke/MethodHandle" ∧ yX6_signAt.cls ≠ "java/lang/invoke/VarHandle" ∧ (parseMethodDescriptor yX6_signAt.desc).map (fun d => d.parameters.length) = some 1 := by decide +kernel
noncomputable def mX6_digitAt (signs : Nat → Int32) (len : Int32) (p0 : Int32) : Int32 :=
  let r_1 := mX6_signAt signs len p0
  if r_1 < 48 then
    (-1)
  else
    if 57 < r_1 then
      (-1)
    else
      (r_1 - 48)
abbrev rmX6_digitAt : Room := { frames := 1, cells := 0, slots := 0, locals := 21 }
set_option maxHeartbeats 4000000 in
set_option maxRecDepth 100000 in
theorem c_X6_digitAt (l : Launch) (D : va_G) (tc : Nat → ClassId) (h0 : Nat) (hs : Nat) (signs : Nat → Int32) (len : Int32) (p0 : Int32) (sz : Nat) : Met l yX6_digitAt wsX6_digitAt rmX6_digitAt (va_Pc [.ref h0, .int p0] (fcB D tc [(h0, .inr (6, [.ref hs, .int len])), (hs, .inl (tc 1, 120, .inl signs))] sz)) (va_Qi (fun (r : Int32) (_ : Unit) => mX6_digitAt signs len p0 = r) (fun u t => fcO D (va_A [(h0, .inr (6, [.ref hs, .int len])), (hs, .inl (tc 1, 120, .inl signs))] sz) ((fun (_ : Unit) => [(h0, .inr (6, [.ref hs, .int len])), (hs, .inl (tc 1, 120, .inl signs))]) u) t) (va_A [(h0, .inr (6, [.ref hs, .int len])), (hs, .inl (tc 1, 120, .inl signs))] sz)) 0 0 (va_A [(h0, .inr (6, [.ref hs, .int len])), (hs, .inl (tc 1, 120, .inl signs))] sz) := by
  refine fc_ofWi (own := RX6) (cc := cX6_digitAt) (maxL := 3) (W1 := (fun (_ : Unit) => [(h0, .inr (6, [.ref hs, .int len])), (hs, .inl (tc 1, 120, .inl signs))])) rfl (by decide) rfl (Nat.le_of_ble_eq_true rfl) ?_
  intro p e s m args below meth c A Q hx hb hml hown hts hK hE hP hD hS hA hin hret ls hl
  have hl : lv_has ls 3 [(0, .ref h0), (1, .int p0)] := hl
  refine lv_aload_n hx hb dX6_digitAt_0 rfl (lv_at hl 0 rfl) ?_
  refine lv_iload_n hx hb dX6_digitAt_1 rfl (lv_at hl 1 rfl) ?_
  refine fc_goi (isC := [0, 1]) (isR := []) (wc := [(h0, .inr (6, [.ref hs, .int len])), (hs, .inl (tc 1, 120, .inl signs))]) (wr := []) hP hD hS hA rfl rfl (by decide) (by decide) (fc_runV (isC := [0, 1]) (As := [.int p0]) (rest := []) hx hb hml hown hts hK hE hP hD hS hA rfl (by decide) (c_X6_signAt l D tc h0 hs signs len p0 _ ) (cwV 1 hts gX6_digitAt_X6_signAt rfl rfl rfl hd_X6_signAt ⟨Nat.le_of_ble_eq_true rfl, Nat.le_of_ble_eq_true rfl⟩) (ci := 6) rfl rfl rfl rfl hl.1 rfl (Nat.le_of_ble_eq_true rfl) dX6_digitAt_2 ⟨Nat.le_of_ble_eq_true rfl, Nat.le_of_ble_eq_true rfl⟩) (fun r_1 u_1 H locs hw_1 hP hD hS => ?_)
  try dsimp only at hw_1
  have hP : va_P D vwCl [(h0, .inr (6, [.ref hs, .int len])), (hs, .inl (tc 1, 120, .inl signs))] H := hP
  have hD : va_D A [(h0, .inr (6, [.ref hs, .int len])), (hs, .inl (tc 1, 120, .inl signs))] := hD
  refine lv_istore_n (lv' := [(2, .int r_1), (0, .ref h0), (1, .int p0)]) hx hb dX6_digitAt_5 rfl hl (by decide) rfl (fun ls hl => ?_)
  refine lv_iload_n hx hb dX6_digitAt_6 rfl (lv_at hl 0 rfl) ?_
  refine lv_bipush (v := 48) hx hb dX6_digitAt_7 (by decide) ?_
  refine lv_icmp_lt (tgt := 25) hx hb dX6_digitAt_9 (by decide) (fun c_2 => ?_) (fun c_2 => ?_)
  · refine lv_iconst (v := (-1)) hx hb dX6_digitAt_25 (by decide) ?_
    exact hret _ _ (-1) () _ _ (by rw [mX6_digitAt]; (try dsimp only); rw [hw_1]; (try dsimp only); rw [if_pos c_2]; (first | done | rfl)) (hP.sub [0, 1] rfl) (hD.sub [0, 1] (by decide) rfl) hS dX6_digitAt_26
  · refine lv_iload_n hx hb dX6_digitAt_12 rfl (lv_at hl 0 rfl) ?_
    refine lv_bipush (v := 57) hx hb dX6_digitAt_13 (by decide) ?_
    refine lv_icmp_gt (tgt := 25) hx hb dX6_digitAt_15 (by decide) (fun c_3 => ?_) (fun c_3 => ?_)
    · refine lv_iconst (v := (-1)) hx hb dX6_digitAt_25 (by decide) ?_
      exact hret _ _ (-1) () _ _ (by rw [mX6_digitAt]; (try dsimp only); rw [hw_1]; (try dsimp only); rw [if_neg c_2]; rw [if_pos c_3]; (first | done | rfl)) (hP.sub [0, 1] rfl) (hD.sub [0, 1] (by decide) rfl) hS dX6_digitAt_26
    · refine lv_iload_n hx hb dX6_digitAt_18 rfl (lv_at hl 0 rfl) ?_
      refine lv_bipush (v := 48) hx hb dX6_digitAt_19 (by decide) ?_
      refine lv_isub hx hb dX6_digitAt_21 ?_
      refine lv_goto (tgt := 26) hx hb dX6_digitAt_22 (by decide) ?_
      exact hret _ _ (r_1 - 48) () _ _ (by rw [mX6_digitAt]; (try dsimp only); rw [hw_1]; (try dsimp only); rw [if_neg c_2]; rw [if_neg c_3]; (first | done | rfl)) (hP.sub [0, 1] rfl) (hD.sub [0, 1] (by decide) rfl) hS dX6_digitAt_26
theorem hd_X6_digitAt : yX6_digitAt.cls = RX6 ∧ yX6_digitAt.cls ≠ "java/lang/invoke/MethodHandle" ∧ yX6_digitAt.cls ≠ "java/lang/invoke/VarHandle" ∧ (parseMethodDescriptor yX6_digitAt.desc).map (fun d => d.parameters.length) = some 1 := by decide +kernel
theorem hd_X6_digitAtn : yX6_digitAt.cls ≠ "java/lang/invoke/MethodHandle" ∧ yX6_digitAt.cls ≠ "java/lang/invoke/VarHandle" ∧ (parseMethodDescriptor yX6_digitAt.desc).map (fun d => d.parameters.length) = some 1 := by decide +kernel
noncomputable def mX6_number_S5 (signs : Nat → Int32) (len : Int32) (p0 : Int32) (p1 : Int32) (ih_5 : Int32 → Int32 → Int32) (x3h5 : Int32) (x4h5 : Int32) : Int32 :=
  if p1 ≤ x4h5 then
    x3h5
  else
    let r_2 := mX6_digitAt signs len (p0 + x4h5)
    ih_5 ((x3h5 * 10) + r_2) (x4h5 + 1)
noncomputable def mX6_number_L5 (signs : Nat → Int32) (len : Int32) (p0 : Int32) (p1 : Int32) (k : Nat) : Int32 → Int32 → Int32 := Nat.rec (motive := fun _ => Int32 → Int32 → Int32) (fun x3h5 x4h5 => 0) (fun _ ih => mX6_number_S5 signs len p0 p1 ih) k
theorem mX6_number_L5_z (signs : Nat → Int32) (len : Int32) (p0 : Int32) (p1 : Int32) (x3h5 : Int32) (x4h5 : Int32) : mX6_number_L5 signs len p0 p1 0 x3h5 x4h5 = 0 := rfl
theorem mX6_number_L5_s (signs : Nat → Int32) (len : Int32) (p0 : Int32) (p1 : Int32) (k : Nat) (x3h5 : Int32) (x4h5 : Int32) : mX6_number_L5 signs len p0 p1 (k + 1) x3h5 x4h5 = mX6_number_S5 signs len p0 p1 (mX6_number_L5 signs len p0 p1 k) x3h5 x4h5 := rfl
noncomputable def mX6_number (signs : Nat → Int32) (len : Int32) (p0 : Int32) (p1 : Int32) : Int32 :=
  mX6_number_L5 signs len p0 p1 11 0 0
abbrev rmX6_number : Room := { frames := 2, cells := 0, slots := 0, locals := 43 }
set_option maxHeartbeats 4000000 in
set_option maxRecDepth 100000 in
theorem c_X6_number (l : Launch) (D : va_G) (tc : Nat → ClassId) (h0 : Nat) (hs : Nat) (signs : Nat → Int32) (len : Int32) (p0 : Int32) (p1 : Int32) (sz : Nat) (hd : p1.toInt ≤ 10) : Met l yX6_number wsX6_number rmX6_number (va_Pc [.ref h0, .int p0, .int p1] (fcB D tc [(h0, .inr (6, [.ref hs, .int len])), (hs, .inl (tc 1, 120, .inl signs))] sz)) (va_Qi (fun (r : Int32) (_ : Unit) => mX6_number signs len p0 p1 = r) (fun u t => fcO D (va_A [(h0, .inr (6, [.ref hs, .int len])), (hs, .inl (tc 1, 120, .inl signs))] sz) ((fun (_ : Unit) => [(h0, .inr (6, [.ref hs, .int len])), (hs, .inl (tc 1, 120, .inl signs))]) u) t) (va_A [(h0, .inr (6, [.ref hs, .int len])), (hs, .inl (tc 1, 120, .inl signs))] sz)) 0 0 (va_A [(h0, .inr (6, [.ref hs, .int len])), (hs, .inl (tc 1, 120, .inl signs))] sz) := by
  refine fc_ofWi (own := RX6) (cc := cX6_number) (maxL := 5) (W1 := (fun (_ : Unit) => [(h0, .inr (6, [.ref hs, .int len])), (hs, .inl (tc 1, 120, .inl signs))])) rfl (by decide) rfl (Nat.le_of_ble_eq_true rfl) ?_
  intro p e s m args below meth c A Q hx hb hml hown hts hK hE hP hD hS hA hin hret ls hl
  have hl : lv_has ls 5 [(0, .ref h0), (1, .int p0), (2, .int p1)] := hl
  refine lv_iconst (v := 0) hx hb dX6_number_0 (by decide) ?_
  refine lv_istore_n (lv' := [(3, .int 0), (0, .ref h0), (1, .int p0), (2, .int p1)]) hx hb dX6_number_1 rfl hl (by decide) rfl (fun ls hl => ?_)
  refine lv_iconst (v := 0) hx hb dX6_number_2 (by decide) ?_
  refine lv_istore (lv' := [(4, .int 0), (3, .int 0), (0, .ref h0), (1, .int p0), (2, .int p1)]) hx hb dX6_number_3 hl (by decide) rfl (fun ls hl => ?_)
  have loop_5 : ∀ (k_5 : Nat) (i_5 : Nat) (x3h5 : Int32) (x4h5 : Int32) (hb_5 : x4h5 = nI i_5) (hm_5 : i_5 ≤ 10 ∧ 10 < i_5 + k_5) (hI_5 : mX6_number signs len p0 p1 = mX6_number_L5 signs len p0 p1 k_5 x3h5 x4h5) (H : Heap) (locs : List Loc), va_P D vwCl [(h0, .inr (6, [.ref hs, .int len])), (hs, .inl (tc 1, 120, .inl signs))] H → va_D A [(h0, .inr (6, [.ref hs, .int len])), (hs, .inl (tc 1, 120, .inl signs))] → va_S A s.heap H locs → ∀ ls : Array Slot, lv_has ls 5 [(4, .int x4h5), (3, .int x3h5), (0, .ref h0), (1, .int p0), (2, .int p1)] → W p l e rmX6_number s m args below meth c H locs 0 0 Q (F0 m 5 ls []) := by
    intro k_5
    induction k_5 with
    | zero =>
      intro i_5 x3h5 x4h5 hb_5 hm_5 hI_5 H locs hP hD hS ls hl
      exact absurd hm_5 (by omega)
    | succ k_5 ih_5 =>
      intro i_5 x3h5 x4h5 hb_5 hm_5 hI_5 H locs hP hD hS ls hl
      have zz_5 := fc_nI (n := i_5) (by omega)
      rw [← hb_5] at zz_5
      refine lv_iload hx hb dX6_number_5 (lv_at hl 0 rfl) ?_
      refine lv_iload_n hx hb dX6_number_7 rfl (lv_at hl 4 rfl) ?_
      refine lv_icmp_ge (tgt := 31) hx hb dX6_number_8 (by decide) (fun c_1 => ?_) (fun c_1 => ?_)
      · refine lv_iload_n hx hb dX6_number_31 rfl (lv_at hl 1 rfl) ?_
        exact hret _ _ (x3h5) () _ _ (by rw [hI_5, mX6_number_L5_s, mX6_number_S5]; (try dsimp only); rw [if_pos c_1]; (first | done | rfl)) (hP.sub [0, 1] rfl) (hD.sub [0, 1] (by decide) rfl) hS dX6_number_32
      · refine lv_iload_n hx hb dX6_number_11 rfl (lv_at hl 1 rfl) ?_
        refine lv_bipush (v := 10) hx hb dX6_number_12 (by decide) ?_
        refine lv_imul hx hb dX6_number_14 ?_
        refine lv_aload_n hx hb dX6_number_15 rfl (lv_at hl 2 rfl) ?_
        refine lv_iload_n hx hb dX6_number_16 rfl (lv_at hl 3 rfl) ?_
        refine lv_iload hx hb dX6_number_17 (lv_at hl 0 rfl) ?_
        refine lv_iadd hx hb dX6_number_19 ?_
        refine fc_goi (isC := [0, 1]) (isR := []) (wc := [(h0, .inr (6, [.ref hs, .int len])), (hs, .inl (tc 1, 120, .inl signs))]) (wr := []) hP hD hS hA rfl rfl (by decide) (by decide) (fc_runV (isC := [0, 1]) (As := [.int (p0 + x4h5)]) (rest := [.int (x3h5 * 10)]) hx hb hml hown hts hK hE hP hD hS hA rfl (by decide) (c_X6_digitAt l D tc h0 hs signs len (p0 + x4h5) _ ) (cwV 1 hts gX6_number_X6_digitAt rfl rfl rfl hd_X6_digitAt ⟨Nat.le_of_ble_eq_true rfl, Nat.le_of_ble_eq_true rfl⟩) (ci := 6) rfl rfl rfl rfl hl.1 rfl (Nat.le_of_ble_eq_true rfl) dX6_number_20 ⟨Nat.le_of_ble_eq_true rfl, Nat.le_of_ble_eq_true rfl⟩) (fun r_2 u_2 H locs hw_2 hP hD hS => ?_)
        try dsimp only at hw_2
        have hP : va_P D vwCl [(h0, .inr (6, [.ref hs, .int len])), (hs, .inl (tc 1, 120, .inl signs))] H := hP
        have hD : va_D A [(h0, .inr (6, [.ref hs, .int len])), (hs, .inl (tc 1, 120, .inl signs))] := hD
        refine lv_iadd hx hb dX6_number_23 ?_
        refine lv_istore_n (lv' := [(3, .int ((x3h5 * 10) + r_2)), (4, .int x4h5), (0, .ref h0), (1, .int p0), (2, .int p1)]) hx hb dX6_number_24 rfl hl (by decide) rfl (fun ls hl => ?_)
        refine lv_iinc (v := (x4h5 + 1)) (lv' := [(4, .int (x4h5 + 1)), (3, .int ((x3h5 * 10) + r_2)), (0, .ref h0), (1, .int p0), (2, .int p1)]) hx hb dX6_number_25 hl (k := 1) rfl rfl (by decide) rfl (fun ls hl => ?_)
        refine lv_goto (tgt := 5) hx hb dX6_number_28 (by decide) ?_
        exact ih_5 (i_5 + 1) ((x3h5 * 10) + r_2) (x4h5 + 1) (by rw [hb_5]; exact nI_1 _) (by have qc_1 := c_1; (try simp only [fc_le, fc_lt, fc_eq] at qc_1); skip; omega) (by rw [hI_5, mX6_number_L5_s, mX6_number_S5]; (try dsimp only); rw [if_neg c_1]; rw [hw_2]; (try dsimp only); (first | done | rfl)) _ _ (hP.sub [0, 1] rfl) (hD.sub [0, 1] (by decide) rfl) hS ls (lv_sub hl [0, 1, 2, 3, 4] rfl)
  exact loop_5 11 0 0 0 nI_0.symm (by omega) (by rw [mX6_number]; (first | done | rfl)) _ _ (hP.sub [0, 1] rfl) (hD.sub [0, 1] (by decide) rfl) hS ls (lv_sub hl [0, 1, 2, 3, 4] rfl)
noncomputable def mX6_errorInNumber_S31 (signs : Nat → Int32) (len : Int32) (p0 : Int32) (p1 : Int32) (p2 : Int32) (p3 : Int32) (ih_31 : Int32 → Int32 → Int32 → Int32) (x5h31 : Int32) (x6h31 : Int32) (x7h31 : Int32) : Int32 :=
  if p1 ≤ x7h31 then
    (-1)
  else
    let r_3 := mX6_digitAt signs len (p0 + x7h31)
    if r_3 = (-1) then
      (p0 + x7h31)
    else
      if p3 < (x6h31 + (r_3 * (x5h31 / 10))) then
        (p0 + x7h31)
      else
        if p2 ≤ (((x6h31 + (r_3 * (x5h31 / 10))) + (x5h31 / 10)) - 1) then
          ih_31 (x5h31 / 10) (x6h31 + (r_3 * (x5h31 / 10))) (x7h31 + 1)
        else
          (p0 + x7h31)
noncomputable def mX6_errorInNumber_L31 (signs : Nat → Int32) (len : Int32) (p0 : Int32) (p1 : Int32) (p2 : Int32) (p3 : Int32) (k : Nat) : Int32 → Int32 → Int32 → Int32 := Nat.rec (motive := fun _ => Int32 → Int32 → Int32 → Int32) (fun x5h31 x6h31 x7h31 => 0) (fun _ ih => mX6_errorInNumber_S31 signs len p0 p1 p2 p3 ih) k
theorem mX6_errorInNumber_L31_z (signs : Nat → Int32) (len : Int32) (p0 : Int32) (p1 : Int32) (p2 : Int32) (p3 : Int32) (x5h31 : Int32) (x6h31 : Int32) (x7h31 : Int32) : mX6_errorInNumber_L31 signs len p0 p1 p2 p3 0 x5h31 x6h31 x7h31 = 0 := rfl
theorem mX6_errorInNumber_L31_s (signs : Nat → Int32) (len : Int32) (p0 : Int32) (p1 : Int32) (p2 : Int32) (p3 : Int32) (k : Nat) (x5h31 : Int32) (x6h31 : Int32) (x7h31 : Int32) : mX6_errorInNumber_L31 signs len p0 p1 p2 p3 (k + 1) x5h31 x6h31 x7h31 = mX6_errorInNumber_S31 signs len p0 p1 p2 p3 (mX6_errorInNumber_L31 signs len p0 p1 p2 p3 k) x5h31 x6h31 x7h31 := rfl
noncomputable def mX6_errorInNumber_S6 (signs : Nat → Int32) (len : Int32) (p0 : Int32) (p1 : Int32) (p2 : Int32) (p3 : Int32) (ih_6 : Int32 → Int32 → Int32) (x5h6 : Int32) (x6h6 : Int32) : Int32 :=
  if p1 ≤ x6h6 then
    mX6_errorInNumber_L31 signs len p0 p1 p2 p3 11 x5h6 0 0
  else
    ih_6 (x5h6 * 10) (x6h6 + 1)
noncomputable def mX6_errorInNumber_L6 (signs : Nat → Int32) (len : Int32) (p0 : Int32) (p1 : Int32) (p2 : Int32) (p3 : Int32) (k : Nat) : Int32 → Int32 → Int32 := Nat.rec (motive := fun _ => Int32 → Int32 → Int32) (fun x5h6 x6h6 => 0) (fun _ ih => mX6_errorInNumber_S6 signs len p0 p1 p2 p3 ih) k
theorem mX6_errorInNumber_L6_z (signs : Nat → Int32) (len : Int32) (p0 : Int32) (p1 : Int32) (p2 : Int32) (p3 : Int32) (x5h6 : Int32) (x6h6 : Int32) : mX6_errorInNumber_L6 signs len p0 p1 p2 p3 0 x5h6 x6h6 = 0 := rfl
theorem mX6_errorInNumber_L6_s (signs : Nat → Int32) (len : Int32) (p0 : Int32) (p1 : Int32) (p2 : Int32) (p3 : Int32) (k : Nat) (x5h6 : Int32) (x6h6 : Int32) : mX6_errorInNumber_L6 signs len p0 p1 p2 p3 (k + 1) x5h6 x6h6 = mX6_errorInNumber_S6 signs len p0 p1 p2 p3 (mX6_errorInNumber_L6 signs len p0 p1 p2 p3 k) x5h6 x6h6 := rfl
noncomputable def mX6_errorInNumber (signs : Nat → Int32) (len : Int32) (p0 : Int32) (p1 : Int32) (p2 : Int32) (p3 : Int32) : Int32 :=
  mX6_errorInNumber_L6 signs len p0 p1 p2 p3 11 1 0
abbrev rmX6_errorInNumber : Room := { frames := 2, cells := 0, slots := 0, locals := 43 }
set_option maxHeartbeats 4000000 in
set_option maxRecDepth 100000 in
theorem c_X6_errorInNumber (l : Launch) (D : va_G) (tc : Nat → ClassId) (h0 : Nat) (hs : Nat) (signs : Nat → Int32) (len : Int32) (p0 : Int32) (p1 : Int32) (p2 : Int32) (p3 : Int32) (sz : Nat) (hd : p1.toInt ≤ 10) : Met l yX6_errorInNumber wsX6_errorInNumber rmX6_errorInNumber (va_Pc [.ref h0, .int p0, .int p1, .int p2, .int p3] (fcB D tc [(h0, .inr (6, [.ref hs, .int len])), (hs, .inl (tc 1, 120, .inl signs))] sz)) (va_Qi (fun (r : Int32) (_ : Unit) => mX6_errorInNumber signs len p0 p1 p2 p3 = r) (fun u t => fcO D (va_A [(h0, .inr (6, [.ref hs, .int len])), (hs, .inl (tc 1, 120, .inl signs))] sz) ((fun (_ : Unit) => [(h0, .inr (6, [.ref hs, .int len])), (hs, .inl (tc 1, 120, .inl signs))]) u) t) (va_A [(h0, .inr (6, [.ref hs, .int len])), (hs, .inl (tc 1, 120, .inl signs))] sz)) 0 0 (va_A [(h0, .inr (6, [.ref hs, .int len])), (hs, .inl (tc 1, 120, .inl signs))] sz) := by
  refine fc_ofWi (own := RX6) (cc := cX6_errorInNumber) (maxL := 9) (W1 := (fun (_ : Unit) => [(h0, .inr (6, [.ref hs, .int len])), (hs, .inl (tc 1, 120, .inl signs))])) rfl (by decide) rfl (Nat.le_of_ble_eq_true rfl) ?_
  intro p e s m args below meth c A Q hx hb hml hown hts hK hE hP hD hS hA hin hret ls hl
  have hl : lv_has ls 9 [(0, .ref h0), (1, .int p0), (2, .int p1), (3, .int p2), (4, .int p3)] := hl
  refine lv_iconst (v := 1) hx hb dX6_errorInNumber_0 (by decide) ?_
  refine lv_istore (lv' := [(5, .int 1), (0, .ref h0), (1, .int p0), (2, .int p1), (3, .int p2), (4, .int p3)]) hx hb dX6_errorInNumber_1 hl (by decide) rfl (fun ls hl => ?_)
  refine lv_iconst (v := 0) hx hb dX6_errorInNumber_3 (by decide) ?_
  refine lv_istore (lv' := [(6, .int 0), (5, .int 1), (0, .ref h0), (1, .int p0), (2, .int p1), (3, .int p2), (4, .int p3)]) hx hb dX6_errorInNumber_4 hl (by decide) rfl (fun ls hl => ?_)
  have loop_6 : ∀ (k_6 : Nat) (i_6 : Nat) (x5h6 : Int32) (x6h6 : Int32) (hb_6 : x6h6 = nI i_6) (hm_6 : i_6 ≤ 10 ∧ 10 < i_6 + k_6) (hI_6 : mX6_errorInNumber signs len p0 p1 p2 p3 = mX6_errorInNumber_L6 signs len p0 p1 p2 p3 k_6 x5h6 x6h6) (H : Heap) (locs : List Loc), va_P D vwCl [(h0, .inr (6, [.ref hs, .int len])), (hs, .inl (tc 1, 120, .inl signs))] H → va_D A [(h0, .inr (6, [.ref hs, .int len])), (hs, .inl (tc 1, 120, .inl signs))] → va_S A s.heap H locs → ∀ ls : Array Slot, lv_has ls 9 [(6, .int x6h6), (5, .int x5h6), (0, .ref h0), (1, .int p0), (2, .int p1), (3, .int p2), (4, .int p3)] → W p l e rmX6_errorInNumber s m args below meth c H locs 0 0 Q (F0 m 6 ls []) := by
    intro k_6
    induction k_6 with
    | zero =>
      intro i_6 x5h6 x6h6 hb_6 hm_6 hI_6 H locs hP hD hS ls hl
      exact absurd hm_6 (by omega)
    | succ k_6 ih_6 =>
      intro i_6 x5h6 x6h6 hb_6 hm_6 hI_6 H locs hP hD hS ls hl
      have zz_6 := fc_nI (n := i_6) (by omega)
      rw [← hb_6] at zz_6
      refine lv_iload hx hb dX6_errorInNumber_6 (lv_at hl 0 rfl) ?_
      refine lv_iload_n hx hb dX6_errorInNumber_8 rfl (lv_at hl 4 rfl) ?_
      refine lv_icmp_ge (tgt := 25) hx hb dX6_errorInNumber_9 (by decide) (fun c_1 => ?_) (fun c_1 => ?_)
      · refine lv_iconst (v := 0) hx hb dX6_errorInNumber_25 (by decide) ?_
        refine lv_istore (lv' := [(6, .int 0), (5, .int x5h6), (0, .ref h0), (1, .int p0), (2, .int p1), (3, .int p2), (4, .int p3)]) hx hb dX6_errorInNumber_26 hl (by decide) rfl (fun ls hl => ?_)
        refine lv_iconst (v := 0) hx hb dX6_errorInNumber_28 (by decide) ?_
        refine lv_istore (lv' := [(7, .int 0), (6, .int 0), (5, .int x5h6), (0, .ref h0), (1, .int p0), (2, .int p1), (3, .int p2), (4, .int p3)]) hx hb dX6_errorInNumber_29 hl (by decide) rfl (fun ls hl => ?_)
        have loop_31 : ∀ (k_31 : Nat) (i_31 : Nat) (x5h31 : Int32) (x6h31 : Int32) (x7h31 : Int32) (hb_31 : x7h31 = nI i_31) (hm_31 : i_31 ≤ 10 ∧ 10 < i_31 + k_31) (hI_31 : mX6_errorInNumber signs len p0 p1 p2 p3 = mX6_errorInNumber_L31 signs len p0 p1 p2 p3 k_31 x5h31 x6h31 x7h31) (H : Heap) (locs : List Loc), va_P D vwCl [(h0, .inr (6, [.ref hs, .int len])), (hs, .inl (tc 1, 120, .inl signs))] H → va_D A [(h0, .inr (6, [.ref hs, .int len])), (hs, .inl (tc 1, 120, .inl signs))] → va_S A s.heap H locs → ∀ ls : Array Slot, lv_has ls 9 [(7, .int x7h31), (6, .int x6h31), (5, .int x5h31), (0, .ref h0), (1, .int p0), (2, .int p1), (3, .int p2), (4, .int p3)] → W p l e rmX6_errorInNumber s m args below meth c H locs 0 0 Q (F0 m 31 ls []) := by
          intro k_31
          induction k_31 with
          | zero =>
            intro i_31 x5h31 x6h31 x7h31 hb_31 hm_31 hI_31 H locs hP hD hS ls hl
            exact absurd hm_31 (by omega)
          | succ k_31 ih_31 =>
            intro i_31 x5h31 x6h31 x7h31 hb_31 hm_31 hI_31 H locs hP hD hS ls hl
            have zz_31 := fc_nI (n := i_31) (by omega)
            rw [← hb_31] at zz_31
            refine lv_iload hx hb dX6_errorInNumber_31 (lv_at hl 0 rfl) ?_
            refine lv_iload_n hx hb dX6_errorInNumber_33 rfl (lv_at hl 5 rfl) ?_
            refine lv_icmp_ge (tgt := 99) hx hb dX6_errorInNumber_34 (by decide) (fun c_2 => ?_) (fun c_2 => ?_)
            · refine lv_iconst (v := (-1)) hx hb dX6_errorInNumber_99 (by decide) ?_
              exact hret _ _ (-1) () _ _ (by rw [hI_31, mX6_errorInNumber_L31_s, mX6_errorInNumber_S31]; (try dsimp only); rw [if_pos c_2]; (first | done | rfl)) (hP.sub [0, 1] rfl) (hD.sub [0, 1] (by decide) rfl) hS dX6_errorInNumber_100
            · refine lv_aload_n hx hb dX6_errorInNumber_37 rfl (lv_at hl 3 rfl) ?_
              refine lv_iload_n hx hb dX6_errorInNumber_38 rfl (lv_at hl 4 rfl) ?_
              refine lv_iload hx hb dX6_errorInNumber_39 (lv_at hl 0 rfl) ?_
              refine lv_iadd hx hb dX6_errorInNumber_41 ?_
              refine fc_goi (isC := [0, 1]) (isR := []) (wc := [(h0, .inr (6, [.ref hs, .int len])), (hs, .inl (tc 1, 120, .inl signs))]) (wr := []) hP hD hS hA rfl rfl (by decide) (by decide) (fc_runV (isC := [0, 1]) (As := [.int (p0 + x7h31)]) (rest := []) hx hb hml hown hts hK hE hP hD hS hA rfl (by decide) (c_X6_digitAt l D tc h0 hs signs len (p0 + x7h31) _ ) (cwV 1 hts gX6_errorInNumber_X6_digitAt rfl rfl rfl hd_X6_digitAt ⟨Nat.le_of_ble_eq_true rfl, Nat.le_of_ble_eq_true rfl⟩) (ci := 6) rfl rfl rfl rfl hl.1 rfl (Nat.le_of_ble_eq_true rfl) dX6_errorInNumber_42 ⟨Nat.le_of_ble_eq_true rfl, Nat.le_of_ble_eq_true rfl⟩) (fun r_3 u_3 H locs hw_3 hP hD hS => ?_)
              try dsimp only at hw_3
              have hP : va_P D vwCl [(h0, .inr (6, [.ref hs, .int len])), (hs, .inl (tc 1, 120, .inl signs))] H := hP
              have hD : va_D A [(h0, .inr (6, [.ref hs, .int len])), (hs, .inl (tc 1, 120, .inl signs))] := hD
              refine lv_istore (lv' := [(8, .int r_3), (7, .int x7h31), (6, .int x6h31), (5, .int x5h31), (0, .ref h0), (1, .int p0), (2, .int p1), (3, .int p2), (4, .int p3)]) hx hb dX6_errorInNumber_45 hl (by decide) rfl (fun ls hl => ?_)
              refine lv_iload hx hb dX6_errorInNumber_47 (lv_at hl 3 rfl) ?_
              refine lv_bipush (v := 10) hx hb dX6_errorInNumber_49 (by decide) ?_
              refine lv_idiv hx hb dX6_errorInNumber_51 (by decide) ?_
              refine lv_istore (lv' := [(5, .int (x5h31 / 10)), (8, .int r_3), (7, .int x7h31), (6, .int x6h31), (0, .ref h0), (1, .int p0), (2, .int p1), (3, .int p2), (4, .int p3)]) hx hb dX6_errorInNumber_52 hl (by decide) rfl (fun ls hl => ?_)
              refine lv_iload hx hb dX6_errorInNumber_54 (lv_at hl 3 rfl) ?_
              refine lv_iload hx hb dX6_errorInNumber_56 (lv_at hl 1 rfl) ?_
              refine lv_iload hx hb dX6_errorInNumber_58 (lv_at hl 0 rfl) ?_
              refine lv_imul hx hb dX6_errorInNumber_60 ?_
              refine lv_iadd hx hb dX6_errorInNumber_61 ?_
              refine lv_istore (lv' := [(6, .int (x6h31 + (r_3 * (x5h31 / 10)))), (5, .int (x5h31 / 10)), (8, .int r_3), (7, .int x7h31), (0, .ref h0), (1, .int p0), (2, .int p1), (3, .int p2), (4, .int p3)]) hx hb dX6_errorInNumber_62 hl (by decide) rfl (fun ls hl => ?_)
              refine lv_iload hx hb dX6_errorInNumber_64 (lv_at hl 2 rfl) ?_
              refine lv_iconst (v := (-1)) hx hb dX6_errorInNumber_66 (by decide) ?_
              refine lv_icmp_eq (tgt := 88) hx hb dX6_errorInNumber_67 (by decide) (fun c_4 => ?_) (fun c_4 => ?_)
              · refine lv_iload_n hx hb dX6_errorInNumber_88 rfl (lv_at hl 5 rfl) ?_
                refine lv_iload hx hb dX6_errorInNumber_89 (lv_at hl 3 rfl) ?_
                refine lv_iadd hx hb dX6_errorInNumber_91 ?_
                exact hret _ _ (p0 + x7h31) () _ _ (by rw [hI_31, mX6_errorInNumber_L31_s, mX6_errorInNumber_S31]; (try dsimp only); rw [if_neg c_2]; rw [hw_3]; (try dsimp only); rw [if_pos c_4]; (first | done | rfl)) (hP.sub [0, 1] rfl) (hD.sub [0, 1] (by decide) rfl) hS dX6_errorInNumber_92
              · refine lv_iload hx hb dX6_errorInNumber_70 (lv_at hl 0 rfl) ?_
                refine lv_iload hx hb dX6_errorInNumber_72 (lv_at hl 8 rfl) ?_
                refine lv_icmp_gt (tgt := 88) hx hb dX6_errorInNumber_74 (by decide) (fun c_5 => ?_) (fun c_5 => ?_)
                · refine lv_iload_n hx hb dX6_errorInNumber_88 rfl (lv_at hl 5 rfl) ?_
                  refine lv_iload hx hb dX6_errorInNumber_89 (lv_at hl 3 rfl) ?_
                  refine lv_iadd hx hb dX6_errorInNumber_91 ?_
                  exact hret _ _ (p0 + x7h31) () _ _ (by rw [hI_31, mX6_errorInNumber_L31_s, mX6_errorInNumber_S31]; (try dsimp only); rw [if_neg c_2]; rw [hw_3]; (try dsimp only); rw [if_neg c_4]; rw [if_pos c_5]; (first | done | rfl)) (hP.sub [0, 1] rfl) (hD.sub [0, 1] (by decide) rfl) hS dX6_errorInNumber_92
                · refine lv_iload hx hb dX6_errorInNumber_77 (lv_at hl 0 rfl) ?_
                  refine lv_iload hx hb dX6_errorInNumber_79 (lv_at hl 1 rfl) ?_
                  refine lv_iadd hx hb dX6_errorInNumber_81 ?_
                  refine lv_iconst (v := 1) hx hb dX6_errorInNumber_82 (by decide) ?_
                  refine lv_isub hx hb dX6_errorInNumber_83 ?_
                  refine lv_iload_n hx hb dX6_errorInNumber_84 rfl (lv_at hl 7 rfl) ?_
                  refine lv_icmp_ge (tgt := 93) hx hb dX6_errorInNumber_85 (by decide) (fun c_6 => ?_) (fun c_6 => ?_)
                  · refine lv_iinc (v := (x7h31 + 1)) (lv' := [(7, .int (x7h31 + 1)), (6, .int (x6h31 + (r_3 * (x5h31 / 10)))), (5, .int (x5h31 / 10)), (8, .int r_3), (0, .ref h0), (1, .int p0), (2, .int p1), (3, .int p2), (4, .int p3)]) hx hb dX6_errorInNumber_93 hl (k := 3) rfl rfl (by decide) rfl (fun ls hl => ?_)
                    refine lv_goto (tgt := 31) hx hb dX6_errorInNumber_96 (by decide) ?_
                    exact ih_31 (i_31 + 1) (x5h31 / 10) (x6h31 + (r_3 * (x5h31 / 10))) (x7h31 + 1) (by rw [hb_31]; exact nI_1 _) (by have l_mm1m : ((-1) : Int32).toInt = (-1) := (by decide); have l_1 : (1 : Int32).toInt = 1 := (by decide); have l_10 : (10 : Int32).toInt = 10 := (by decide); have qc_2 := c_2; (try simp only [fc_le, fc_lt, fc_eq] at qc_2); have qc_4 := c_4; (try simp only [fc_le, fc_lt, fc_eq] at qc_4); have qc_5 := c_5; (try simp only [fc_le, fc_lt, fc_eq] at qc_5); have qc_6 := c_6; (try simp only [fc_le, fc_lt, fc_eq] at qc_6); skip; omega) (by rw [hI_31, mX6_errorInNumber_L31_s, mX6_errorInNumber_S31]; (try dsimp only); rw [if_neg c_2]; rw [hw_3]; (try dsimp only); rw [if_neg c_4]; rw [if_neg c_5]; rw [if_pos c_6]; (first | done | rfl)) _ _ (hP.sub [0, 1] rfl) (hD.sub [0, 1] (by decide) rfl) hS ls (lv_sub hl [0, 1, 2, 4, 5, 6, 7, 8] rfl)
                  · refine lv_iload_n hx hb dX6_errorInNumber_88 rfl (lv_at hl 5 rfl) ?_
                    refine lv_iload hx hb dX6_errorInNumber_89 (lv_at hl 3 rfl) ?_
                    refine lv_iadd hx hb dX6_errorInNumber_91 ?_
                    exact hret _ _ (p0 + x7h31) () _ _ (by rw [hI_31, mX6_errorInNumber_L31_s, mX6_errorInNumber_S31]; (try dsimp only); rw [if_neg c_2]; rw [hw_3]; (try dsimp only); rw [if_neg c_4]; rw [if_neg c_5]; rw [if_neg c_6]; (first | done | rfl)) (hP.sub [0, 1] rfl) (hD.sub [0, 1] (by decide) rfl) hS dX6_errorInNumber_92
        exact loop_31 11 0 x5h6 0 0 nI_0.symm (by omega) (by rw [hI_6, mX6_errorInNumber_L6_s, mX6_errorInNumber_S6]; (try dsimp only); rw [if_pos c_1]; (first | done | rfl)) _ _ (hP.sub [0, 1] rfl) (hD.sub [0, 1] (by decide) rfl) hS ls (lv_sub hl [0, 1, 2, 3, 4, 5, 6, 7] rfl)
      · refine lv_iload hx hb dX6_errorInNumber_12 (lv_at hl 1 rfl) ?_
        refine lv_bipush (v := 10) hx hb dX6_errorInNumber_14 (by decide) ?_
        refine lv_imul hx hb dX6_errorInNumber_16 ?_
        refine lv_istore (lv' := [(5, .int (x5h6 * 10)), (6, .int x6h6), (0, .ref h0), (1, .int p0), (2, .int p1), (3, .int p2), (4, .int p3)]) hx hb dX6_errorInNumber_17 hl (by decide) rfl (fun ls hl => ?_)
        refine lv_iinc (v := (x6h6 + 1)) (lv' := [(6, .int (x6h6 + 1)), (5, .int (x5h6 * 10)), (0, .ref h0), (1, .int p0), (2, .int p1), (3, .int p2), (4, .int p3)]) hx hb dX6_errorInNumber_19 hl (k := 1) rfl rfl (by decide) rfl (fun ls hl => ?_)
        refine lv_goto (tgt := 6) hx hb dX6_errorInNumber_22 (by decide) ?_
        exact ih_6 (i_6 + 1) (x5h6 * 10) (x6h6 + 1) (by rw [hb_6]; exact nI_1 _) (by have qc_1 := c_1; (try simp only [fc_le, fc_lt, fc_eq] at qc_1); skip; omega) (by rw [hI_6, mX6_errorInNumber_L6_s, mX6_errorInNumber_S6]; (try dsimp only); rw [if_neg c_1]; (first | done | rfl)) _ _ (hP.sub [0, 1] rfl) (hD.sub [0, 1] (by decide) rfl) hS ls (lv_sub hl [0, 1, 2, 3, 4, 5, 6] rfl)
  exact loop_6 11 0 1 0 nI_0.symm (by omega) (by rw [mX6_errorInNumber]; (first | done | rfl)) _ _ (hP.sub [0, 1] rfl) (hD.sub [0, 1] (by decide) rfl) hS ls (lv_sub hl [0, 1, 2, 3, 4, 5, 6] rfl)
theorem hd_X6_errorInNumber : yX6_errorInNumber.cls = RX6 ∧ yX6_errorInNumber.cls ≠ "java/lang/invoke/MethodHandle" ∧ yX6_errorInNumber.cls ≠ "java/lang/invoke/VarHandle" ∧ (parseMethodDescriptor yX6_errorInNumber.desc).map (fun d => d.parameters.length) = some 4 := by decide +kernel
theorem hd_X6_errorInNumbern : yX6_errorInNumber.cls ≠ "java/lang/invoke/MethodHandle" ∧ yX6_errorInNumber.cls ≠ "java/lang/invoke/VarHandle" ∧ (parseMethodDescriptor yX6_errorInNumber.desc).map (fun d => d.parameters.length) = some 4 := by decide +kernel
noncomputable def mX6_errorInCommand (signs : Nat → Int32) (len : Int32) (p0 : Int32) : Int32 :=
  let r_1 := mX6_signAt signs len p0
  if r_1 = 100 then
    let r_3 := mX6_errorInNumber signs len (p0 + 1) 2 0 47
    r_3
  else
    if r_1 = 110 then
      let r_5 := mX6_errorInNumber signs len (p0 + 1) 1 1 9
      r_5
    else
      if r_1 = 115 then
        let r_7 := mX6_errorInNumber signs len (p0 + 1) 6 0 999999
        r_7
      else
        p0
abbrev rmX6_errorInCommand : Room := { frames := 3, cells := 0, slots := 0, locals := 71 }
set_option maxHeartbeats 4000000 in
set_option maxRecDepth 100000 in
theorem c_X6_errorInCommand (l : Launch) (D : va_G) (tc : Nat → ClassId) (h0 : Nat) (hs : Nat) (signs : Nat → Int32) (len : Int32) (p0 : Int32) (sz : Nat) : Met l yX6_errorInCommand wsX6_errorInCommand rmX6_errorInCommand (va_Pc [.ref h0, .int p0] (fcB D tc [(h0, .inr (6, [.ref hs, .int len])), (hs, .inl (tc 1, 120, .inl signs))] sz)) (va_Qi (fun (r : Int32) (_ : Unit) => mX6_errorInCommand signs len p0 = r) (fun u t => fcO D (va_A [(h0, .inr (6, [.ref hs, .int len])), (hs, .inl (tc 1, 120, .inl signs))] sz) ((fun (_ : Unit) => [(h0, .inr (6, [.ref hs, .int len])), (hs, .inl (tc 1, 120, .inl signs))]) u) t) (va_A [(h0, .inr (6, [.ref hs, .int len])), (hs, .inl (tc 1, 120, .inl signs))] sz)) 0 0 (va_A [(h0, .inr (6, [.ref hs, .int len])), (hs, .inl (tc 1, 120, .inl signs))] sz) := by
  refine fc_ofWi (own := RX6) (cc := cX6_errorInCommand) (maxL := 2) (W1 := (fun (_ : Unit) => [(h0, .inr (6, [.ref hs, .int len])), (hs, .inl (tc 1, 120, .inl signs))])) rfl (by decide) rfl (Nat.le_of_ble_eq_true rfl) ?_
  intro p e s m args below meth c A Q hx hb hml hown hts hK hE hP hD hS hA hin hret ls hl
  have hl : lv_has ls 2 [(0, .ref h0), (1, .int p0)] := hl
  refine lv_aload_n hx hb dX6_errorInCommand_0 rfl (lv_at hl 0 rfl) ?_
  refine lv_iload_n hx hb dX6_errorInCommand_1 rfl (lv_at hl 1 rfl) ?_
  refine fc_goi (isC := [0, 1]) (isR := []) (wc := [(h0, .inr (6, [.ref hs, .int len])), (hs, .inl (tc 1, 120, .inl signs))]) (wr := []) hP hD hS hA rfl rfl (by decide) (by decide) (fc_runV (isC := [0, 1]) (As := [.int p0]) (rest := []) hx hb hml hown hts hK hE hP hD hS hA rfl (by decide) (c_X6_signAt l D tc h0 hs signs len p0 _ ) (cwV 1 hts gX6_errorInCommand_X6_signAt rfl rfl rfl hd_X6_signAt ⟨Nat.le_of_ble_eq_true rfl, Nat.le_of_ble_eq_true rfl⟩) (ci := 6) rfl rfl rfl rfl hl.1 rfl (Nat.le_of_ble_eq_true rfl) dX6_errorInCommand_2 ⟨Nat.le_of_ble_eq_true rfl, Nat.le_of_ble_eq_true rfl⟩) (fun r_1 u_1 H locs hw_1 hP hD hS => ?_)
  try dsimp only at hw_1
  have hP : va_P D vwCl [(h0, .inr (6, [.ref hs, .int len])), (hs, .inl (tc 1, 120, .inl signs))] H := hP
  have hD : va_D A [(h0, .inr (6, [.ref hs, .int len])), (hs, .inl (tc 1, 120, .inl signs))] := hD
  by_cases c_2 : r_1 = 100
  · refine lv_lookup (tgt := 65) (off := 60) hx hb dX6_errorInCommand_5 (by decide) (by rw [c_2]; first | done | rfl) (by decide) ?_
    refine lv_aload_n hx hb dX6_errorInCommand_65 rfl (lv_at hl 0 rfl) ?_
    refine lv_iload_n hx hb dX6_errorInCommand_66 rfl (lv_at hl 1 rfl) ?_
    refine lv_iconst (v := 1) hx hb dX6_errorInCommand_67 (by decide) ?_
    refine lv_iadd hx hb dX6_errorInCommand_68 ?_
    refine lv_iconst (v := 2) hx hb dX6_errorInCommand_69 (by decide) ?_
    refine lv_iconst (v := 0) hx hb dX6_errorInCommand_70 (by decide) ?_
    refine lv_bipush (v := 47) hx hb dX6_errorInCommand_71 (by decide) ?_
    refine fc_goi (isC := [0, 1]) (isR := []) (wc := [(h0, .inr (6, [.ref hs, .int len])), (hs, .inl (tc 1, 120, .inl signs))]) (wr := []) hP hD hS hA rfl rfl (by decide) (by decide) (fc_runV (isC := [0, 1]) (As := [.int (p0 + 1), .int 2, .int 0, .int 47]) (rest := []) hx hb hml hown hts hK hE hP hD hS hA rfl (by decide) (c_X6_errorInNumber l D tc h0 hs signs len (p0 + 1) 2 0 47 _ (by have l_0 : (0 : Int32).toInt = 0 := (by decide); have l_1 : (1 : Int32).toInt = 1 := (by decide); have l_100 : (100 : Int32).toInt = 100 := (by decide); have l_2 : (2 : Int32).toInt = 2 := (by decide); have l_47 : (47 : Int32).toInt = 47 := (by decide); have qc_2 := c_2; (try simp only [fc_le, fc_lt, fc_eq] at qc_2); (try simp only [fc_le, fc_lt, fc_eq]); omega)) (cwV 4 hts gX6_errorInCommand_X6_errorInNumber rfl rfl rfl hd_X6_errorInNumber ⟨Nat.le_of_ble_eq_true rfl, Nat.le_of_ble_eq_true rfl⟩) (ci := 6) rfl rfl rfl rfl hl.1 rfl (Nat.le_of_ble_eq_true rfl) dX6_errorInCommand_73 ⟨Nat.le_of_ble_eq_true rfl, Nat.le_of_ble_eq_true rfl⟩) (fun r_3 u_3 H locs hw_3 hP hD hS => ?_)
    try dsimp only at hw_3
    have hP : va_P D vwCl [(h0, .inr (6, [.ref hs, .int len])), (hs, .inl (tc 1, 120, .inl signs))] H := hP
    have hD : va_D A [(h0, .inr (6, [.ref hs, .int len])), (hs, .inl (tc 1, 120, .inl signs))] := hD
    exact hret _ _ (r_3) () _ _ (by rw [mX6_errorInCommand]; (try dsimp only); rw [hw_1]; (try dsimp only); rw [if_pos c_2]; rw [hw_3]; (try dsimp only); (first | done | rfl)) (hP.sub [0, 1] rfl) (hD.sub [0, 1] (by decide) rfl) hS dX6_errorInCommand_76
  by_cases c_4 : r_1 = 110
  · refine lv_lookup (tgt := 53) (off := 48) hx hb dX6_errorInCommand_5 (by decide) (by rw [c_4]; first | done | rfl) (by decide) ?_
    refine lv_aload_n hx hb dX6_errorInCommand_53 rfl (lv_at hl 0 rfl) ?_
    refine lv_iload_n hx hb dX6_errorInCommand_54 rfl (lv_at hl 1 rfl) ?_
    refine lv_iconst (v := 1) hx hb dX6_errorInCommand_55 (by decide) ?_
    refine lv_iadd hx hb dX6_errorInCommand_56 ?_
    refine lv_iconst (v := 1) hx hb dX6_errorInCommand_57 (by decide) ?_
    refine lv_iconst (v := 1) hx hb dX6_errorInCommand_58 (by decide) ?_
    refine lv_bipush (v := 9) hx hb dX6_errorInCommand_59 (by decide) ?_
    refine fc_goi (isC := [0, 1]) (isR := []) (wc := [(h0, .inr (6, [.ref hs, .int len])), (hs, .inl (tc 1, 120, .inl signs))]) (wr := []) hP hD hS hA rfl rfl (by decide) (by decide) (fc_runV (isC := [0, 1]) (As := [.int (p0 + 1), .int 1, .int 1, .int 9]) (rest := []) hx hb hml hown hts hK hE hP hD hS hA rfl (by decide) (c_X6_errorInNumber l D tc h0 hs signs len (p0 + 1) 1 1 9 _ (by have l_1 : (1 : Int32).toInt = 1 := (by decide); have l_100 : (100 : Int32).toInt = 100 := (by decide); have l_110 : (110 : Int32).toInt = 110 := (by decide); have l_9 : (9 : Int32).toInt = 9 := (by decide); have qc_2 := c_2; (try simp only [fc_le, fc_lt, fc_eq] at qc_2); have qc_4 := c_4; (try simp only [fc_le, fc_lt, fc_eq] at qc_4); (try simp only [fc_le, fc_lt, fc_eq]); omega)) (cwV 4 hts gX6_errorInCommand_X6_errorInNumber rfl rfl rfl hd_X6_errorInNumber ⟨Nat.le_of_ble_eq_true rfl, Nat.le_of_ble_eq_true rfl⟩) (ci := 6) rfl rfl rfl rfl hl.1 rfl (Nat.le_of_ble_eq_true rfl) dX6_errorInCommand_61 ⟨Nat.le_of_ble_eq_true rfl, Nat.le_of_ble_eq_true rfl⟩) (fun r_5 u_5 H locs hw_5 hP hD hS => ?_)
    try dsimp only at hw_5
    have hP : va_P D vwCl [(h0, .inr (6, [.ref hs, .int len])), (hs, .inl (tc 1, 120, .inl signs))] H := hP
    have hD : va_D A [(h0, .inr (6, [.ref hs, .int len])), (hs, .inl (tc 1, 120, .inl signs))] := hD
    exact hret _ _ (r_5) () _ _ (by rw [mX6_errorInCommand]; (try dsimp only); rw [hw_1]; (try dsimp only); rw [if_neg c_2]; rw [if_pos c_4]; rw [hw_5]; (try dsimp only); (first | done | rfl)) (hP.sub [0, 1] rfl) (hD.sub [0, 1] (by decide) rfl) hS dX6_errorInCommand_64
  by_cases c_6 : r_1 = 115
  · refine lv_lookup (tgt := 40) (off := 35) hx hb dX6_errorInCommand_5 (by decide) (by rw [c_6]; first | done | rfl) (by decide) ?_
    refine lv_aload_n hx hb dX6_errorInCommand_40 rfl (lv_at hl 0 rfl) ?_
    refine lv_iload_n hx hb dX6_errorInCommand_41 rfl (lv_at hl 1 rfl) ?_
    refine lv_iconst (v := 1) hx hb dX6_errorInCommand_42 (by decide) ?_
    refine lv_iadd hx hb dX6_errorInCommand_43 ?_
    refine lv_bipush (v := 6) hx hb dX6_errorInCommand_44 (by decide) ?_
    refine lv_iconst (v := 0) hx hb dX6_errorInCommand_46 (by decide) ?_
    refine lv_ldc (v := 999999) hx hb hown (hts (.constant RX6 47 999999) (by decide +kernel)) dX6_errorInCommand_47 ?_
    refine fc_goi (isC := [0, 1]) (isR := []) (wc := [(h0, .inr (6, [.ref hs, .int len])), (hs, .inl (tc 1, 120, .inl signs))]) (wr := []) hP hD hS hA rfl rfl (by decide) (by decide) (fc_runV (isC := [0, 1]) (As := [.int (p0 + 1), .int 6, .int 0, .int 999999]) (rest := []) hx hb hml hown hts hK hE hP hD hS hA rfl (by decide) (c_X6_errorInNumber l D tc h0 hs signs len (p0 + 1) 6 0 999999 _ (by have l_0 : (0 : Int32).toInt = 0 := (by decide); have l_1 : (1 : Int32).toInt = 1 := (by decide); have l_100 : (100 : Int32).toInt = 100 := (by decide); have l_110 : (110 : Int32).toInt = 110 := (by decide); have l_115 : (115 : Int32).toInt = 115 := (by decide); have l_6 : (6 : Int32).toInt = 6 := (by decide); have l_999999 : (999999 : Int32).toInt = 999999 := (by decide); have qc_2 := c_2; (try simp only [fc_le, fc_lt, fc_eq] at qc_2); have qc_4 := c_4; (try simp only [fc_le, fc_lt, fc_eq] at qc_4); have qc_6 := c_6; (try simp only [fc_le, fc_lt, fc_eq] at qc_6); (try simp only [fc_le, fc_lt, fc_eq]); omega)) (cwV 4 hts gX6_errorInCommand_X6_errorInNumber rfl rfl rfl hd_X6_errorInNumber ⟨Nat.le_of_ble_eq_true rfl, Nat.le_of_ble_eq_true rfl⟩) (ci := 6) rfl rfl rfl rfl hl.1 rfl (Nat.le_of_ble_eq_true rfl) dX6_errorInCommand_49 ⟨Nat.le_of_ble_eq_true rfl, Nat.le_of_ble_eq_true rfl⟩) (fun r_7 u_7 H locs hw_7 hP hD hS => ?_)
    try dsimp only at hw_7
    have hP : va_P D vwCl [(h0, .inr (6, [.ref hs, .int len])), (hs, .inl (tc 1, 120, .inl signs))] H := hP
    have hD : va_D A [(h0, .inr (6, [.ref hs, .int len])), (hs, .inl (tc 1, 120, .inl signs))] := hD
    exact hret _ _ (r_7) () _ _ (by rw [mX6_errorInCommand]; (try dsimp only); rw [hw_1]; (try dsimp only); rw [if_neg c_2]; rw [if_neg c_4]; rw [if_pos c_6]; rw [hw_7]; (try dsimp only); (first | done | rfl)) (hP.sub [0, 1] rfl) (hD.sub [0, 1] (by decide) rfl) hS dX6_errorInCommand_52
  refine lv_lookup (tgt := 77) (off := 72) hx hb dX6_errorInCommand_5 (by decide) (by have qc_2 := c_2; simp only [fc_eq] at qc_2; have lc_2 : (100 : Int32).toInt = 100 := (by decide); have qc_4 := c_4; simp only [fc_eq] at qc_4; have lc_4 : (110 : Int32).toInt = 110 := (by decide); have qc_6 := c_6; simp only [fc_eq] at qc_6; have lc_6 : (115 : Int32).toInt = 115 := (by decide); show Op.lookupswitch.offset [(100, 60), (110, 48), (115, 35)] 72 _ = _; rw [Op.lookupswitch.offset_cons, if_neg (by omega)]; rw [Op.lookupswitch.offset_cons, if_neg (by omega)]; rw [Op.lookupswitch.offset_cons, if_neg (by omega)]; rfl) (by decide) ?_
  refine lv_iload_n hx hb dX6_errorInCommand_77 rfl (lv_at hl 1 rfl) ?_
  exact hret _ _ (p0) () _ _ (by rw [mX6_errorInCommand]; (try dsimp only); rw [hw_1]; (try dsimp only); rw [if_neg c_2]; rw [if_neg c_4]; rw [if_neg c_6]; (first | done | rfl)) (hP.sub [0, 1] rfl) (hD.sub [0, 1] (by decide) rfl) hS dX6_errorInCommand_78
noncomputable def mX6_errorInHead (signs : Nat → Int32) (len : Int32) : Int32 :=
  let r_1 := mX6_signAt signs len 0
  if r_1 = 67 then
    let r_8 := mX6_errorInNumber signs len 1 2 8 48
    if r_8 = (-1) then
      let r_14 := mX6_errorInNumber signs len 3 1 (fcS1 (0 : Int32).toNatClampNeg) (fcS2 (0 : Int32).toNatClampNeg)
      if r_14 = (-1) then
        let r_19 := mX6_errorInNumber signs len 4 1 (fcS1 (1 : Int32).toNatClampNeg) (fcS2 (1 : Int32).toNatClampNeg)
        if r_19 = (-1) then
          let r_23 := mX6_errorInNumber signs len 5 2 (fcS1 (2 : Int32).toNatClampNeg) (fcS2 (2 : Int32).toNatClampNeg)
          r_23
        else
          r_19
      else
        r_14
    else
      r_8
  else
    0
abbrev rmX6_errorInHead : Room := { frames := 3, cells := 0, slots := 0, locals := 71 }
set_option maxHeartbeats 4000000 in
set_option maxRecDepth 100000 in
theorem c_X6_errorInHead (l : Launch) (D : va_G) (tc : Nat → ClassId) (h0 : Nat) (hs : Nat) (signs : Nat → Int32) (len : Int32) (sz : Nat) : Met l yX6_errorInHead wsX6_errorInHead rmX6_errorInHead (va_Pc [.ref h0] (fcB D tc [(h0, .inr (6, [.ref hs, .int len])), (hs, .inl (tc 1, 120, .inl signs))] sz)) (va_Qi (fun (r : Int32) (_ : Unit) => mX6_errorInHead signs len = r) (fun u t => fcO D (va_A [(h0, .inr (6, [.ref hs, .int len])), (hs, .inl (tc 1, 120, .inl signs))] sz) ((fun (_ : Unit) => [(h0, .inr (6, [.ref hs, .int len])), (hs, .inl (tc 1, 120, .inl signs))]) u) t) (va_A [(h0, .inr (6, [.ref hs, .int len])), (hs, .inl (tc 1, 120, .inl signs))] sz)) 0 0 (va_A [(h0, .inr (6, [.ref hs, .int len])), (hs, .inl (tc 1, 120, .inl signs))] sz) := by
  refine fc_ofWi (own := RX6) (cc := cX6_errorInHead) (maxL := 2) (W1 := (fun (_ : Unit) => [(h0, .inr (6, [.ref hs, .int len])), (hs, .inl (tc 1, 120, .inl signs))])) rfl (by decide) rfl (Nat.le_of_ble_eq_true rfl) ?_
  intro p e s m args below meth c A Q hx hb hml hown hts hK hE hP hD hS hA hin hret ls hl
  have hl : lv_has ls 2 [(0, .ref h0)] := hl
  refine lv_aload_n hx hb dX6_errorInHead_0 rfl (lv_at hl 0 rfl) ?_
  refine lv_iconst (v := 0) hx hb dX6_errorInHead_1 (by decide) ?_
  refine fc_goi (isC := [0, 1]) (isR := []) (wc := [(h0, .inr (6, [.ref hs, .int len])), (hs, .inl (tc 1, 120, .inl signs))]) (wr := []) hP hD hS hA rfl rfl (by decide) (by decide) (fc_runV (isC := [0, 1]) (As := [.int 0]) (rest := []) hx hb hml hown hts hK hE hP hD hS hA rfl (by decide) (c_X6_signAt l D tc h0 hs signs len 0 _ ) (cwV 1 hts gX6_errorInHead_X6_signAt rfl rfl rfl hd_X6_signAt ⟨Nat.le_of_ble_eq_true rfl, Nat.le_of_ble_eq_true rfl⟩) (ci := 6) rfl rfl rfl rfl hl.1 rfl (Nat.le_of_ble_eq_true rfl) dX6_errorInHead_2 ⟨Nat.le_of_ble_eq_true rfl, Nat.le_of_ble_eq_true rfl⟩) (fun r_1 u_1 H locs hw_1 hP hD hS => ?_)
  try dsimp only at hw_1
  have hP : va_P D vwCl [(h0, .inr (6, [.ref hs, .int len])), (hs, .inl (tc 1, 120, .inl signs))] H := hP
  have hD : va_D A [(h0, .inr (6, [.ref hs, .int len])), (hs, .inl (tc 1, 120, .inl signs))] := hD
  refine lv_bipush (v := 67) hx hb dX6_errorInHead_5 (by decide) ?_
  refine lv_icmp_ne (tgt := 14) hx hb dX6_errorInHead_7 (by decide) (fun c_2 => ?_) (fun c_2 => ?_)
  · refine lv_iconst (v := 0) hx hb dX6_errorInHead_14 (by decide) ?_
    refine lv_istore_n (lv' := [(1, .int 0), (0, .ref h0)]) hx hb dX6_errorInHead_15 rfl hl (by decide) rfl (fun ls hl => ?_)
    refine lv_iload_n hx hb dX6_errorInHead_16 rfl (lv_at hl 0 rfl) ?_
    refine lv_iconst (v := (-1)) hx hb dX6_errorInHead_17 (by decide) ?_
    refine lv_icmp_ne (tgt := 32) hx hb dX6_errorInHead_18 (by decide) (fun c_3 => ?_) (fun c_3 => ?_)
    · refine lv_iload_n hx hb dX6_errorInHead_32 rfl (lv_at hl 0 rfl) ?_
      refine lv_iconst (v := (-1)) hx hb dX6_errorInHead_33 (by decide) ?_
      refine lv_icmp_ne (tgt := 54) hx hb dX6_errorInHead_34 (by decide) (fun c_4 => ?_) (fun c_4 => ?_)
      · refine lv_iload_n hx hb dX6_errorInHead_54 rfl (lv_at hl 0 rfl) ?_
        refine lv_iconst (v := (-1)) hx hb dX6_errorInHead_55 (by decide) ?_
        refine lv_icmp_ne (tgt := 76) hx hb dX6_errorInHead_56 (by decide) (fun c_5 => ?_) (fun c_5 => ?_)
        · refine lv_iload_n hx hb dX6_errorInHead_76 rfl (lv_at hl 0 rfl) ?_
          refine lv_iconst (v := (-1)) hx hb dX6_errorInHead_77 (by decide) ?_
          refine lv_icmp_ne (tgt := 98) hx hb dX6_errorInHead_78 (by decide) (fun c_6 => ?_) (fun c_6 => ?_)
          · refine lv_iload_n hx hb dX6_errorInHead_98 rfl (lv_at hl 0 rfl) ?_
            exact hret _ _ (0) () _ _ (by rw [mX6_errorInHead]; (try dsimp only); rw [hw_1]; (try dsimp only); rw [if_neg c_2]; (first | done | rfl)) (hP.sub [0, 1] rfl) (hD.sub [0, 1] (by decide) rfl) hS dX6_errorInHead_99
          · exact absurd c_6 (by decide)
        · exact absurd c_5 (by decide)
      · exact absurd c_4 (by decide)
    · exact absurd c_3 (by decide)
  · refine lv_iconst (v := (-1)) hx hb dX6_errorInHead_10 (by decide) ?_
    refine lv_goto (tgt := 15) hx hb dX6_errorInHead_11 (by decide) ?_
    refine lv_istore_n (lv' := [(1, .int (-1)), (0, .ref h0)]) hx hb dX6_errorInHead_15 rfl hl (by decide) rfl (fun ls hl => ?_)
    refine lv_iload_n hx hb dX6_errorInHead_16 rfl (lv_at hl 0 rfl) ?_
    refine lv_iconst (v := (-1)) hx hb dX6_errorInHead_17 (by decide) ?_
    refine lv_icmp_ne (tgt := 32) hx hb dX6_errorInHead_18 (by decide) (fun c_7 => ?_) (fun c_7 => ?_)
    · exact absurd (by decide) c_7
    · refine lv_aload_n hx hb dX6_errorInHead_21 rfl (lv_at hl 1 rfl) ?_
      refine lv_iconst (v := 1) hx hb dX6_errorInHead_22 (by decide) ?_
      refine lv_iconst (v := 2) hx hb dX6_errorInHead_23 (by decide) ?_
      refine lv_bipush (v := 8) hx hb dX6_errorInHead_24 (by decide) ?_
      refine lv_bipush (v := 48) hx hb dX6_errorInHead_26 (by decide) ?_
      refine fc_goi (isC := [0, 1]) (isR := []) (wc := [(h0, .inr (6, [.ref hs, .int len])), (hs, .inl (tc 1, 120, .inl signs))]) (wr := []) hP hD hS hA rfl rfl (by decide) (by decide) (fc_runV (isC := [0, 1]) (As := [.int 1, .int 2, .int 8, .int 48]) (rest := []) hx hb hml hown hts hK hE hP hD hS hA rfl (by decide) (c_X6_errorInNumber l D tc h0 hs signs len 1 2 8 48 _ (by have l_1 : (1 : Int32).toInt = 1 := (by decide); have l_2 : (2 : Int32).toInt = 2 := (by decide); have l_48 : (48 : Int32).toInt = 48 := (by decide); have l_67 : (67 : Int32).toInt = 67 := (by decide); have l_8 : (8 : Int32).toInt = 8 := (by decide); have qc_2 := c_2; (try simp only [fc_le, fc_lt, fc_eq] at qc_2); (try simp only [fc_le, fc_lt, fc_eq]); omega)) (cwV 4 hts gX6_errorInHead_X6_errorInNumber rfl rfl rfl hd_X6_errorInNumber ⟨Nat.le_of_ble_eq_true rfl, Nat.le_of_ble_eq_true rfl⟩) (ci := 6) rfl rfl rfl rfl hl.1 rfl (Nat.le_of_ble_eq_true rfl) dX6_errorInHead_28 ⟨Nat.le_of_ble_eq_true rfl, Nat.le_of_ble_eq_true rfl⟩) (fun r_8 u_8 H locs hw_8 hP hD hS => ?_)
      try dsimp only at hw_8
      have hP : va_P D vwCl [(h0, .inr (6, [.ref hs, .int len])), (hs, .inl (tc 1, 120, .inl signs))] H := hP
      have hD : va_D A [(h0, .inr (6, [.ref hs, .int len])), (hs, .inl (tc 1, 120, .inl signs))] := hD
      refine lv_istore_n (lv' := [(1, .int r_8), (0, .ref h0)]) hx hb dX6_errorInHead_31 rfl hl (by decide) rfl (fun ls hl => ?_)
      refine lv_iload_n hx hb dX6_errorInHead_32 rfl (lv_at hl 0 rfl) ?_
      refine lv_iconst (v := (-1)) hx hb dX6_errorInHead_33 (by decide) ?_
      refine lv_icmp_ne (tgt := 54) hx hb dX6_errorInHead_34 (by decide) (fun c_9 => ?_) (fun c_9 => ?_)
      · refine lv_iload_n hx hb dX6_errorInHead_54 rfl (lv_at hl 0 rfl) ?_
        refine lv_iconst (v := (-1)) hx hb dX6_errorInHead_55 (by decide) ?_
        refine lv_icmp_ne (tgt := 76) hx hb dX6_errorInHead_56 (by decide) (fun c_10 => ?_) (fun c_10 => ?_)
        · refine lv_iload_n hx hb dX6_errorInHead_76 rfl (lv_at hl 0 rfl) ?_
          refine lv_iconst (v := (-1)) hx hb dX6_errorInHead_77 (by decide) ?_
          refine lv_icmp_ne (tgt := 98) hx hb dX6_errorInHead_78 (by decide) (fun c_11 => ?_) (fun c_11 => ?_)
          · refine lv_iload_n hx hb dX6_errorInHead_98 rfl (lv_at hl 0 rfl) ?_
            exact hret _ _ (r_8) () _ _ (by rw [mX6_errorInHead]; (try dsimp only); rw [hw_1]; (try dsimp only); rw [if_pos c_2]; rw [hw_8]; (try dsimp only); rw [if_neg c_9]; (first | done | rfl)) (hP.sub [0, 1] rfl) (hD.sub [0, 1] (by decide) rfl) hS dX6_errorInHead_99
          · exact absurd c_11 c_9
        · exact absurd c_10 c_9
      · refine lv_aload_n hx hb dX6_errorInHead_37 rfl (lv_at hl 1 rfl) ?_
        refine lv_iconst (v := 3) hx hb dX6_errorInHead_38 (by decide) ?_
        refine lv_iconst (v := 1) hx hb dX6_errorInHead_39 (by decide) ?_
        obtain ⟨t_12, hZ_12, hT_12⟩ := hE.1.2.1
        refine va_getsN hx hb hZ_12 hS hown (hE.nw 30 (w := .fieldLinkNest "FrameCard$Text" 40 "FrameCard" "SETTING_LOWEST" "[I" "FrameCard") rfl args) (fun _ h9 => h9) dX6_errorInHead_40 ?_
        refine lv_iconst (v := 0) hx hb dX6_errorInHead_43 (by decide) ?_
        refine va_ti hx hb hT_12 hS (vp_in_iff.mpr (by decide)) (v := .int (fcS1 (0 : Int32).toNatClampNeg)) rfl dX6_errorInHead_44 ?_
        obtain ⟨t_13, hZ_13, hT_13⟩ := hE.1.2.2
        refine va_getsN hx hb hZ_13 hS hown (hE.nw 31 (w := .fieldLinkNest "FrameCard$Text" 44 "FrameCard" "SETTING_HIGHEST" "[I" "FrameCard") rfl args) (fun _ h9 => h9) dX6_errorInHead_45 ?_
        refine lv_iconst (v := 0) hx hb dX6_errorInHead_48 (by decide) ?_
        refine va_ti hx hb hT_13 hS (vp_in_iff.mpr (by decide)) (v := .int (fcS2 (0 : Int32).toNatClampNeg)) rfl dX6_errorInHead_49 ?_
        refine fc_goi (isC := [0, 1]) (isR := []) (wc := [(h0, .inr (6, [.ref hs, .int len])), (hs, .inl (tc 1, 120, .inl signs))]) (wr := []) hP hD hS hA rfl rfl (by decide) (by decide) (fc_runV (isC := [0, 1]) (As := [.int 3, .int 1, .int (fcS1 (0 : Int32).toNatClampNeg), .int (fcS2 (0 : Int32).toNatClampNeg)]) (rest := []) hx hb hml hown hts hK hE hP hD hS hA rfl (by decide) (c_X6_errorInNumber l D tc h0 hs signs len 3 1 (fcS1 (0 : Int32).toNatClampNeg) (fcS2 (0 : Int32).toNatClampNeg) _ (by have l_mm1m : ((-1) : Int32).toInt = (-1) := (by decide); have l_0 : (0 : Int32).toInt = 0 := (by decide); have l_1 : (1 : Int32).toInt = 1 := (by decide); have l_3 : (3 : Int32).toInt = 3 := (by decide); have l_67 : (67 : Int32).toInt = 67 := (by decide); have qc_2 := c_2; (try simp only [fc_le, fc_lt, fc_eq] at qc_2); have qc_9 := c_9; (try simp only [fc_le, fc_lt, fc_eq] at qc_9); (try simp only [fc_le, fc_lt, fc_eq]); omega)) (cwV 4 hts gX6_errorInHead_X6_errorInNumber rfl rfl rfl hd_X6_errorInNumber ⟨Nat.le_of_ble_eq_true rfl, Nat.le_of_ble_eq_true rfl⟩) (ci := 6) rfl rfl rfl rfl hl.1 rfl (Nat.le_of_ble_eq_true rfl) dX6_errorInHead_50 ⟨Nat.le_of_ble_eq_true rfl, Nat.le_of_ble_eq_true rfl⟩) (fun r_14 u_14 H locs hw_14 hP hD hS => ?_)
        try dsimp only at hw_14
        have hP : va_P D vwCl [(h0, .inr (6, [.ref hs, .int len])), (hs, .inl (tc 1, 120, .inl signs))] H := hP
        have hD : va_D A [(h0, .inr (6, [.ref hs, .int len])), (hs, .inl (tc 1, 120, .inl signs))] := hD
        refine lv_istore_n (lv' := [(1, .int r_14), (0, .ref h0)]) hx hb dX6_errorInHead_53 rfl hl (by decide) rfl (fun ls hl => ?_)
        refine lv_iload_n hx hb dX6_errorInHead_54 rfl (lv_at hl 0 rfl) ?_
        refine lv_iconst (v := (-1)) hx hb dX6_errorInHead_55 (by decide) ?_
        refine lv_icmp_ne (tgt := 76) hx hb dX6_errorInHead_56 (by decide) (fun c_15 => ?_) (fun c_15 => ?_)
        · refine lv_iload_n hx hb dX6_errorInHead_76 rfl (lv_at hl 0 rfl) ?_
          refine lv_iconst (v := (-1)) hx hb dX6_errorInHead_77 (by decide) ?_
          refine lv_icmp_ne (tgt := 98) hx hb dX6_errorInHead_78 (by decide) (fun c_16 => ?_) (fun c_16 => ?_)
          · refine lv_iload_n hx hb dX6_errorInHead_98 rfl (lv_at hl 0 rfl) ?_
            exact hret _ _ (r_14) () _ _ (by rw [mX6_errorInHead]; (try dsimp only); rw [hw_1]; (try dsimp only); rw [if_pos c_2]; rw [hw_8]; (try dsimp only); rw [if_pos c_9]; rw [hw_14]; (try dsimp only); rw [if_neg c_15]; (first | done | rfl)) (hP.sub [0, 1] rfl) (hD.sub [0, 1] (by decide) rfl) hS dX6_errorInHead_99
          · exact absurd c_16 c_15
        · refine lv_aload_n hx hb dX6_errorInHead_59 rfl (lv_at hl 1 rfl) ?_
          refine lv_iconst (v := 4) hx hb dX6_errorInHead_60 (by decide) ?_
          refine lv_iconst (v := 1) hx hb dX6_errorInHead_61 (by decide) ?_
          obtain ⟨t_17, hZ_17, hT_17⟩ := hE.1.2.1
          refine va_getsN hx hb hZ_17 hS hown (hE.nw 30 (w := .fieldLinkNest "FrameCard$Text" 40 "FrameCard" "SETTING_LOWEST" "[I" "FrameCard") rfl args) (fun _ h9 => h9) dX6_errorInHead_62 ?_
          refine lv_iconst (v := 1) hx hb dX6_errorInHead_65 (by decide) ?_
          refine va_ti hx hb hT_17 hS (vp_in_iff.mpr (by decide)) (v := .int (fcS1 (1 : Int32).toNatClampNeg)) rfl dX6_errorInHead_66 ?_
          obtain ⟨t_18, hZ_18, hT_18⟩ := hE.1.2.2
          refine va_getsN hx hb hZ_18 hS hown (hE.nw 31 (w := .fieldLinkNest "FrameCard$Text" 44 "FrameCard" "SETTING_HIGHEST" "[I" "FrameCard") rfl args) (fun _ h9 => h9) dX6_errorInHead_67 ?_
          refine lv_iconst (v := 1) hx hb dX6_errorInHead_70 (by decide) ?_
          refine va_ti hx hb hT_18 hS (vp_in_iff.mpr (by decide)) (v := .int (fcS2 (1 : Int32).toNatClampNeg)) rfl dX6_errorInHead_71 ?_
          refine fc_goi (isC := [0, 1]) (isR := []) (wc := [(h0, .inr (6, [.ref hs, .int len])), (hs, .inl (tc 1, 120, .inl signs))]) (wr := []) hP hD hS hA rfl rfl (by decide) (by decide) (fc_runV (isC := [0, 1]) (As := [.int 4, .int 1, .int (fcS1 (1 : Int32).toNatClampNeg), .int (fcS2 (1 : Int32).toNatClampNeg)]) (rest := []) hx hb hml hown hts hK hE hP hD hS hA rfl (by decide) (c_X6_errorInNumber l D tc h0 hs signs len 4 1 (fcS1 (1 : Int32).toNatClampNeg) (fcS2 (1 : Int32).toNatClampNeg) _ (by have l_mm1m : ((-1) : Int32).toInt = (-1) := (by decide); have l_1 : (1 : Int32).toInt = 1 := (by decide); have l_4 : (4 : Int32).toInt = 4 := (by decide); have l_67 : (67 : Int32).toInt = 67 := (by decide); have qc_2 := c_2; (try simp only [fc_le, fc_lt, fc_eq] at qc_2); have qc_9 := c_9; (try simp only [fc_le, fc_lt, fc_eq] at qc_9); have qc_15 := c_15; (try simp only [fc_le, fc_lt, fc_eq] at qc_15); (try simp only [fc_le, fc_lt, fc_eq]); omega)) (cwV 4 hts gX6_errorInHead_X6_errorInNumber rfl rfl rfl hd_X6_errorInNumber ⟨Nat.le_of_ble_eq_true rfl, Nat.le_of_ble_eq_true rfl⟩) (ci := 6) rfl rfl rfl rfl hl.1 rfl (Nat.le_of_ble_eq_true rfl) dX6_errorInHead_72 ⟨Nat.le_of_ble_eq_true rfl, Nat.le_of_ble_eq_true rfl⟩) (fun r_19 u_19 H locs hw_19 hP hD hS => ?_)
          try dsimp only at hw_19
          have hP : va_P D vwCl [(h0, .inr (6, [.ref hs, .int len])), (hs, .inl (tc 1, 120, .inl signs))] H := hP
          have hD : va_D A [(h0, .inr (6, [.ref hs, .int len])), (hs, .inl (tc 1, 120, .inl signs))] := hD
          refine lv_istore_n (lv' := [(1, .int r_19), (0, .ref h0)]) hx hb dX6_errorInHead_75 rfl hl (by decide) rfl (fun ls hl => ?_)
          refine lv_iload_n hx hb dX6_errorInHead_76 rfl (lv_at hl 0 rfl) ?_
          refine lv_iconst (v := (-1)) hx hb dX6_errorInHead_77 (by decide) ?_
          refine lv_icmp_ne (tgt := 98) hx hb dX6_errorInHead_78 (by decide) (fun c_20 => ?_) (fun c_20 => ?_)
          · refine lv_iload_n hx hb dX6_errorInHead_98 rfl (lv_at hl 0 rfl) ?_
            exact hret _ _ (r_19) () _ _ (by rw [mX6_errorInHead]; (try dsimp only); rw [hw_1]; (try dsimp only); rw [if_pos c_2]; rw [hw_8]; (try dsimp only); rw [if_pos c_9]; rw [hw_14]; (try dsimp only); rw [if_pos c_15]; rw [hw_19]; (try dsimp only); rw [if_neg c_20]; (first | done | rfl)) (hP.sub [0, 1] rfl) (hD.sub [0, 1] (by decide) rfl) hS dX6_errorInHead_99
          · refine lv_aload_n hx hb dX6_errorInHead_81 rfl (lv_at hl 1 rfl) ?_
            refine lv_iconst (v := 5) hx hb dX6_errorInHead_82 (by decide) ?_
            refine lv_iconst (v := 2) hx hb dX6_errorInHead_83 (by decide) ?_
            obtain ⟨t_21, hZ_21, hT_21⟩ := hE.1.2.1
            refine va_getsN hx hb hZ_21 hS hown (hE.nw 30 (w := .fieldLinkNest "FrameCard$Text" 40 "FrameCard" "SETTING_LOWEST" "[I" "FrameCard") rfl args) (fun _ h9 => h9) dX6_errorInHead_84 ?_
            refine lv_iconst (v := 2) hx hb dX6_errorInHead_87 (by decide) ?_
            refine va_ti hx hb hT_21 hS (vp_in_iff.mpr (by decide)) (v := .int (fcS1 (2 : Int32).toNatClampNeg)) rfl dX6_errorInHead_88 ?_
            obtain ⟨t_22, hZ_22, hT_22⟩ := hE.1.2.2
            refine va_getsN hx hb hZ_22 hS hown (hE.nw 31 (w := .fieldLinkNest "FrameCard$Text" 44 "FrameCard" "SETTING_HIGHEST" "[I" "FrameCard") rfl args) (fun _ h9 => h9) dX6_errorInHead_89 ?_
            refine lv_iconst (v := 2) hx hb dX6_errorInHead_92 (by decide) ?_
            refine va_ti hx hb hT_22 hS (vp_in_iff.mpr (by decide)) (v := .int (fcS2 (2 : Int32).toNatClampNeg)) rfl dX6_errorInHead_93 ?_
            refine fc_goi (isC := [0, 1]) (isR := []) (wc := [(h0, .inr (6, [.ref hs, .int len])), (hs, .inl (tc 1, 120, .inl signs))]) (wr := []) hP hD hS hA rfl rfl (by decide) (by decide) (fc_runV (isC := [0, 1]) (As := [.int 5, .int 2, .int (fcS1 (2 : Int32).toNatClampNeg), .int (fcS2 (2 : Int32).toNatClampNeg)]) (rest := []) hx hb hml hown hts hK hE hP hD hS hA rfl (by decide) (c_X6_errorInNumber l D tc h0 hs signs len 5 2 (fcS1 (2 : Int32).toNatClampNeg) (fcS2 (2 : Int32).toNatClampNeg) _ (by have l_mm1m : ((-1) : Int32).toInt = (-1) := (by decide); have l_2 : (2 : Int32).toInt = 2 := (by decide); have l_5 : (5 : Int32).toInt = 5 := (by decide); have l_67 : (67 : Int32).toInt = 67 := (by decide); have qc_2 := c_2; (try simp only [fc_le, fc_lt, fc_eq] at qc_2); have qc_9 := c_9; (try simp only [fc_le, fc_lt, fc_eq] at qc_9); have qc_15 := c_15; (try simp only [fc_le, fc_lt, fc_eq] at qc_15); have qc_20 := c_20; (try simp only [fc_le, fc_lt, fc_eq] at qc_20); (try simp only [fc_le, fc_lt, fc_eq]); omega)) (cwV 4 hts gX6_errorInHead_X6_errorInNumber rfl rfl rfl hd_X6_errorInNumber ⟨Nat.le_of_ble_eq_true rfl, Nat.le_of_ble_eq_true rfl⟩) (ci := 6) rfl rfl rfl rfl hl.1 rfl (Nat.le_of_ble_eq_true rfl) dX6_errorInHead_94 ⟨Nat.le_of_ble_eq_true rfl, Nat.le_of_ble_eq_true rfl⟩) (fun r_23 u_23 H locs hw_23 hP hD hS => ?_)
            try dsimp only at hw_23
            have hP : va_P D vwCl [(h0, .inr (6, [.ref hs, .int len])), (hs, .inl (tc 1, 120, .inl signs))] H := hP
            have hD : va_D A [(h0, .inr (6, [.ref hs, .int len])), (hs, .inl (tc 1, 120, .inl signs))] := hD
            refine lv_istore_n (lv' := [(1, .int r_23), (0, .ref h0)]) hx hb dX6_errorInHead_97 rfl hl (by decide) rfl (fun ls hl => ?_)
            refine lv_iload_n hx hb dX6_errorInHead_98 rfl (lv_at hl 0 rfl) ?_
            exact hret _ _ (r_23) () _ _ (by rw [mX6_errorInHead]; (try dsimp only); rw [hw_1]; (try dsimp only); rw [if_pos c_2]; rw [hw_8]; (try dsimp only); rw [if_pos c_9]; rw [hw_14]; (try dsimp only); rw [if_pos c_15]; rw [hw_19]; (try dsimp only); rw [if_pos c_20]; rw [hw_23]; (try dsimp only); (first | done | rfl)) (hP.sub [0, 1] rfl) (hD.sub [0, 1] (by decide) rfl) hS dX6_errorInHead_99
noncomputable def mX7_digitsBehind (p0 : Int32) : Int32 :=
  if p0 = 100 then
    2
  else
    if p0 = 115 then
      6
    else
      1
abbrev rmX7_digitsBehind : Room := { frames := 0, cells := 0, slots := 0, locals := 0 }
set_option maxHeartbeats 4000000 in
set_option maxRecDepth 100000 in
theorem c_X7_digitsBehind (l : Launch) (D : va_G) (tc : Nat → ClassId) (p0 : Int32) (sz : Nat) : Met l yX7_digitsBehind wsX7_digitsBehind rmX7_digitsBehind (va_Pc [.int p0] (fcB D tc [] sz)) (va_Qi (fun (r : Int32) (_ : Unit) => mX7_digitsBehind p0 = r) (fun u t => fcO D (va_A [] sz) ((fun (_ : Unit) => []) u) t) (va_A [] sz)) 0 0 (va_A [] sz) := by
  refine fc_ofWi (own := RX7) (cc := cX7_digitsBehind) (maxL := 1) (W1 := (fun (_ : Unit) => [])) rfl (by decide) rfl (Nat.le_of_ble_eq_true rfl) ?_
  intro p e s m args below meth c A Q hx hb hml hown hts hK hE hP hD hS hA hin hret ls hl
  have hl : lv_has ls 1 [(0, .int p0)] := hl
  refine lv_iload_n hx hb dX7_digitsBehind_0 rfl (lv_at hl 0 rfl) ?_
  by_cases c_1 : p0 = 100
  · refine lv_lookup (tgt := 31) (off := 30) hx hb dX7_digitsBehind_1 (by decide) (by rw [c_1]; first | done | rfl) (by decide) ?_
    refine lv_iconst (v := 2) hx hb dX7_digitsBehind_31 (by decide) ?_
    exact hret _ _ (2) () _ _ (by rw [mX7_digitsBehind]; (try dsimp only); rw [if_pos c_1]; (first | done | rfl)) (hP.sub [] rfl) (hD.sub [] (by decide) rfl) hS dX7_digitsBehind_32
  by_cases c_2 : p0 = 115
  · refine lv_lookup (tgt := 28) (off := 27) hx hb dX7_digitsBehind_1 (by decide) (by rw [c_2]; first | done | rfl) (by decide) ?_
    refine lv_bipush (v := 6) hx hb dX7_digitsBehind_28 (by decide) ?_
    exact hret _ _ (6) () _ _ (by rw [mX7_digitsBehind]; (try dsimp only); rw [if_neg c_1]; rw [if_pos c_2]; (first | done | rfl)) (hP.sub [] rfl) (hD.sub [] (by decide) rfl) hS dX7_digitsBehind_30
  refine lv_lookup (tgt := 33) (off := 32) hx hb dX7_digitsBehind_1 (by decide) (by have qc_1 := c_1; simp only [fc_eq] at qc_1; have lc_1 : (100 : Int32).toInt = 100 := (by decide); have qc_2 := c_2; simp only [fc_eq] at qc_2; have lc_2 : (115 : Int32).toInt = 115 := (by decide); show Op.lookupswitch.offset [(100, 30), (115, 27)] 32 _ = _; rw [Op.lookupswitch.offset_cons, if_neg (by omega)]; rw [Op.lookupswitch.offset_cons, if_neg (by omega)]; rfl) (by decide) ?_
  refine lv_iconst (v := 1) hx hb dX7_digitsBehind_33 (by decide) ?_
  exact hret _ _ (1) () _ _ (by rw [mX7_digitsBehind]; (try dsimp only); rw [if_neg c_1]; rw [if_neg c_2]; (first | done | rfl)) (hP.sub [] rfl) (hD.sub [] (by decide) rfl) hS dX7_digitsBehind_34
theorem hd_X6_errorInHead : yX6_errorInHead.cls = RX6 ∧ yX6_errorInHead.cls ≠ "java/lang/invoke/MethodHandle" ∧ yX6_errorInHead.cls ≠ "java/lang/invoke/VarHandle" ∧ (parseMethodDescriptor yX6_errorInHead.desc).map (fun d => d.parameters.length) = some 0 := by decide +kernel
theorem hd_X6_errorInHeadn : yX6_errorInHead.cls ≠ "java/lang/invoke/MethodHandle" ∧ yX6_errorInHead.cls ≠ "java/lang/invoke/VarHandle" ∧ (parseMethodDescriptor yX6_errorInHead.desc).map (fun d => d.parameters.length) = some 0 := by decide +kernel
theorem hd_X6_errorInCommand : yX6_errorInCommand.cls = RX6 ∧ yX6_errorInCommand.cls ≠ "java/lang/invoke/MethodHandle" ∧ yX6_errorInCommand.cls ≠ "java/lang/invoke/VarHandle" ∧ (parseMethodDescriptor yX6_errorInCommand.desc).map (fun d => d.parameters.length) = some 1 := by decide +kernel
theorem hd_X6_errorInCommandn : yX6_errorInCommand.cls ≠ "java/lang/invoke/MethodHandle" ∧ yX6_errorInCommand.cls ≠ "java/lang/invoke/VarHandle" ∧ (parseMethodDescriptor yX6_errorInCommand.desc).map (fun d => d.parameters.length) = some 1 := by decide +kernel
theorem hd_X7_digitsBehind : yX7_digitsBehind.cls = RX7 ∧ yX7_digitsBehind.cls ≠ "java/lang/invoke/MethodHandle" ∧ yX7_digitsBehind.cls ≠ "java/lang/invoke/VarHandle" ∧ (parseMethodDescriptor yX7_digitsBehind.desc).map (fun d => d.parameters.length) = some 1 := by decide +kernel
theorem hd_X7_digitsBehindn : yX7_digitsBehind.cls ≠ "java/lang/invoke/MethodHandle" ∧ yX7_digitsBehind.cls ≠ "java/lang/invoke/VarHandle" ∧ (parseMethodDescriptor yX7_digitsBehind.desc).map (fun d => d.parameters.length) = some 1 := by decide +kernel
noncomputable def mX6_firstError_S10 (signs : Nat → Int32) (len : Int32) (ih_10 : Int32 → Int32 → Int32 → Int32) (x1h10 : Int32) (x2h10 : Int32) (x3h10 : Int32) : Int32 :=
  if 120 ≤ x3h10 then
    x1h10
  else
    if x1h10 = (-1) then
      if len ≤ x2h10 then
        x1h10
      else
        let r_5 := mX6_errorInCommand signs len x2h10
        let r_6 := mX6_signAt signs len x2h10
        let r_7 := mX7_digitsBehind r_6
        ih_10 r_5 ((x2h10 + 1) + r_7) (x3h10 + 1)
    else
      x1h10
noncomputable def mX6_firstError_L10 (signs : Nat → Int32) (len : Int32) (k : Nat) : Int32 → Int32 → Int32 → Int32 := Nat.rec (motive := fun _ => Int32 → Int32 → Int32 → Int32) (fun x1h10 x2h10 x3h10 => 0) (fun _ ih => mX6_firstError_S10 signs len ih) k
theorem mX6_firstError_L10_z (signs : Nat → Int32) (len : Int32) (x1h10 : Int32) (x2h10 : Int32) (x3h10 : Int32) : mX6_firstError_L10 signs len 0 x1h10 x2h10 x3h10 = 0 := rfl
theorem mX6_firstError_L10_s (signs : Nat → Int32) (len : Int32) (k : Nat) (x1h10 : Int32) (x2h10 : Int32) (x3h10 : Int32) : mX6_firstError_L10 signs len (k + 1) x1h10 x2h10 x3h10 = mX6_firstError_S10 signs len (mX6_firstError_L10 signs len k) x1h10 x2h10 x3h10 := rfl
noncomputable def mX6_firstError (signs : Nat → Int32) (len : Int32) : Int32 :=
  let r_1 := mX6_errorInHead signs len
  mX6_firstError_L10 signs len 121 r_1 7 0
set_option maxRecDepth 20000 in
theorem iX6_firstError_X6 : ∀ w ∈ wsX60, w ∈ wsX6_firstError := by decide +kernel
abbrev rmX6_firstError : Room := { frames := 4, cells := 0, slots := 0, locals := 92 }
set_option maxHeartbeats 4000000 in
set_option maxRecDepth 100000 in
theorem c_X6_firstError (l : Launch) (D : va_G) (tc : Nat → ClassId) (h0 : Nat) (hs : Nat) (signs : Nat → Int32) (len : Int32) (sz : Nat) : Met l yX6_firstError wsX6_firstError rmX6_firstError (va_Pc [.ref h0] (fcB D tc [(h0, .inr (6, [.ref hs, .int len])), (hs, .inl (tc 1, 120, .inl signs))] sz)) (va_Qi (fun (r : Int32) (_ : Unit) => mX6_firstError signs len = r) (fun u t => fcO D (va_A [(h0, .inr (6, [.ref hs, .int len])), (hs, .inl (tc 1, 120, .inl signs))] sz) ((fun (_ : Unit) => [(h0, .inr (6, [.ref hs, .int len])), (hs, .inl (tc 1, 120, .inl signs))]) u) t) (va_A [(h0, .inr (6, [.ref hs, .int len])), (hs, .inl (tc 1, 120, .inl signs))] sz)) 0 0 (va_A [(h0, .inr (6, [.ref hs, .int len])), (hs, .inl (tc 1, 120, .inl signs))] sz) := by
  refine fc_ofWi (own := RX6) (cc := cX6_firstError) (maxL := 4) (W1 := (fun (_ : Unit) => [(h0, .inr (6, [.ref hs, .int len])), (hs, .inl (tc 1, 120, .inl signs))])) rfl (by decide) rfl (Nat.le_of_ble_eq_true rfl) ?_
  intro p e s m args below meth c A Q hx hb hml hown hts hK hE hP hD hS hA hin hret ls hl
  have hl : lv_has ls 4 [(0, .ref h0)] := hl
  refine lv_aload_n hx hb dX6_firstError_0 rfl (lv_at hl 0 rfl) ?_
  refine fc_goi (isC := [0, 1]) (isR := []) (wc := [(h0, .inr (6, [.ref hs, .int len])), (hs, .inl (tc 1, 120, .inl signs))]) (wr := []) hP hD hS hA rfl rfl (by decide) (by decide) (fc_runV (isC := [0, 1]) (As := []) (rest := []) hx hb hml hown hts hK hE hP hD hS hA rfl (by decide) (c_X6_errorInHead l D tc h0 hs signs len _ ) (cwV 0 hts gX6_firstError_X6_errorInHead rfl rfl rfl hd_X6_errorInHead ⟨Nat.le_of_ble_eq_true rfl, Nat.le_of_ble_eq_true rfl⟩) (ci := 6) rfl rfl rfl rfl hl.1 rfl (Nat.le_of_ble_eq_true rfl) dX6_firstError_1 ⟨Nat.le_of_ble_eq_true rfl, Nat.le_of_ble_eq_true rfl⟩) (fun r_1 u_1 H locs hw_1 hP hD hS => ?_)
  try dsimp only at hw_1
  have hP : va_P D vwCl [(h0, .inr (6, [.ref hs, .int len])), (hs, .inl (tc 1, 120, .inl signs))] H := hP
  have hD : va_D A [(h0, .inr (6, [.ref hs, .int len])), (hs, .inl (tc 1, 120, .inl signs))] := hD
  refine lv_istore_n (lv' := [(1, .int r_1), (0, .ref h0)]) hx hb dX6_firstError_4 rfl hl (by decide) rfl (fun ls hl => ?_)
  refine lv_bipush (v := 7) hx hb dX6_firstError_5 (by decide) ?_
  refine lv_istore_n (lv' := [(2, .int 7), (1, .int r_1), (0, .ref h0)]) hx hb dX6_firstError_7 rfl hl (by decide) rfl (fun ls hl => ?_)
  refine lv_iconst (v := 0) hx hb dX6_firstError_8 (by decide) ?_
  refine lv_istore_n (lv' := [(3, .int 0), (2, .int 7), (1, .int r_1), (0, .ref h0)]) hx hb dX6_firstError_9 rfl hl (by decide) rfl (fun ls hl => ?_)
  have loop_10 : ∀ (k_10 : Nat) (i_10 : Nat) (x1h10 : Int32) (x2h10 : Int32) (x3h10 : Int32) (hb_10 : x3h10 = nI i_10) (hm_10 : i_10 ≤ 120 ∧ 120 < i_10 + k_10) (hI_10 : mX6_firstError signs len = mX6_firstError_L10 signs len k_10 x1h10 x2h10 x3h10) (H : Heap) (locs : List Loc), va_P D vwCl [(h0, .inr (6, [.ref hs, .int len])), (hs, .inl (tc 1, 120, .inl signs))] H → va_D A [(h0, .inr (6, [.ref hs, .int len])), (hs, .inl (tc 1, 120, .inl signs))] → va_S A s.heap H locs → ∀ ls : Array Slot, lv_has ls 4 [(3, .int x3h10), (2, .int x2h10), (1, .int x1h10), (0, .ref h0)] → W p l e rmX6_firstError s m args below meth c H locs 0 0 Q (F0 m 10 ls []) := by
    intro k_10
    induction k_10 with
    | zero =>
      intro i_10 x1h10 x2h10 x3h10 hb_10 hm_10 hI_10 H locs hP hD hS ls hl
      exact absurd hm_10 (by omega)
    | succ k_10 ih_10 =>
      intro i_10 x1h10 x2h10 x3h10 hb_10 hm_10 hI_10 H locs hP hD hS ls hl
      have zz_10 := fc_nI (n := i_10) (by omega)
      rw [← hb_10] at zz_10
      refine lv_iload_n hx hb dX6_firstError_10 rfl (lv_at hl 0 rfl) ?_
      refine lv_bipush (v := 120) hx hb dX6_firstError_11 (by decide) ?_
      refine lv_icmp_ge (tgt := 54) hx hb dX6_firstError_13 (by decide) (fun c_2 => ?_) (fun c_2 => ?_)
      · refine lv_iload_n hx hb dX6_firstError_54 rfl (lv_at hl 2 rfl) ?_
        exact hret _ _ (x1h10) () _ _ (by rw [hI_10, mX6_firstError_L10_s, mX6_firstError_S10]; (try dsimp only); rw [if_pos c_2]; (first | done | rfl)) (hP.sub [0, 1] rfl) (hD.sub [0, 1] (by decide) rfl) hS dX6_firstError_55
      · refine lv_iload_n hx hb dX6_firstError_16 rfl (lv_at hl 2 rfl) ?_
        refine lv_iconst (v := (-1)) hx hb dX6_firstError_17 (by decide) ?_
        refine lv_icmp_ne (tgt := 54) hx hb dX6_firstError_18 (by decide) (fun c_3 => ?_) (fun c_3 => ?_)
        · refine lv_iload_n hx hb dX6_firstError_54 rfl (lv_at hl 2 rfl) ?_
          exact hret _ _ (x1h10) () _ _ (by rw [hI_10, mX6_firstError_L10_s, mX6_firstError_S10]; (try dsimp only); rw [if_neg c_2]; rw [if_neg c_3]; (first | done | rfl)) (hP.sub [0, 1] rfl) (hD.sub [0, 1] (by decide) rfl) hS dX6_firstError_55
        · refine lv_iload_n hx hb dX6_firstError_21 rfl (lv_at hl 1 rfl) ?_
          refine lv_aload_n hx hb dX6_firstError_22 rfl (lv_at hl 3 rfl) ?_
          refine va_get (D := D) (ci := 6) (v := .int len) (C := RX6) (T := TX6) (N := 2) hx hb hts iX6_firstError_X6 hown hK hP 0 rfl rfl 1 (by decide) (hts (.fieldLink RX6 15 "FrameCard$Text" "length" "I") (by decide +kernel)) (fun _ h9 => h9) rfl dX6_firstError_23 ?_
          refine lv_icmp_ge (tgt := 54) hx hb dX6_firstError_26 (by decide) (fun c_4 => ?_) (fun c_4 => ?_)
          · refine lv_iload_n hx hb dX6_firstError_54 rfl (lv_at hl 2 rfl) ?_
            exact hret _ _ (x1h10) () _ _ (by rw [hI_10, mX6_firstError_L10_s, mX6_firstError_S10]; (try dsimp only); rw [if_neg c_2]; rw [if_pos c_3]; rw [if_pos c_4]; (first | done | rfl)) (hP.sub [0, 1] rfl) (hD.sub [0, 1] (by decide) rfl) hS dX6_firstError_55
          · refine lv_aload_n hx hb dX6_firstError_29 rfl (lv_at hl 3 rfl) ?_
            refine lv_iload_n hx hb dX6_firstError_30 rfl (lv_at hl 1 rfl) ?_
            refine fc_goi (isC := [0, 1]) (isR := []) (wc := [(h0, .inr (6, [.ref hs, .int len])), (hs, .inl (tc 1, 120, .inl signs))]) (wr := []) hP hD hS hA rfl rfl (by decide) (by decide) (fc_runV (isC := [0, 1]) (As := [.int x2h10]) (rest := []) hx hb hml hown hts hK hE hP hD hS hA rfl (by decide) (c_X6_errorInCommand l D tc h0 hs signs len x2h10 _ ) (cwV 1 hts gX6_firstError_X6_errorInCommand rfl rfl rfl hd_X6_errorInCommand ⟨Nat.le_of_ble_eq_true rfl, Nat.le_of_ble_eq_true rfl⟩) (ci := 6) rfl rfl rfl rfl hl.1 rfl (Nat.le_of_ble_eq_true rfl) dX6_firstError_31 ⟨Nat.le_of_ble_eq_true rfl, Nat.le_of_ble_eq_true rfl⟩) (fun r_5 u_5 H locs hw_5 hP hD hS => ?_)
            try dsimp only at hw_5
            have hP : va_P D vwCl [(h0, .inr (6, [.ref hs, .int len])), (hs, .inl (tc 1, 120, .inl signs))] H := hP
            have hD : va_D A [(h0, .inr (6, [.ref hs, .int len])), (hs, .inl (tc 1, 120, .inl signs))] := hD
            refine lv_istore_n (lv' := [(1, .int r_5), (3, .int x3h10), (2, .int x2h10), (0, .ref h0)]) hx hb dX6_firstError_34 rfl hl (by decide) rfl (fun ls hl => ?_)
            refine lv_iload_n hx hb dX6_firstError_35 rfl (lv_at hl 2 rfl) ?_
            refine lv_iconst (v := 1) hx hb dX6_firstError_36 (by decide) ?_
            refine lv_iadd hx hb dX6_firstError_37 ?_
            refine lv_aload_n hx hb dX6_firstError_38 rfl (lv_at hl 3 rfl) ?_
            refine lv_iload_n hx hb dX6_firstError_39 rfl (lv_at hl 2 rfl) ?_
            refine fc_goi (isC := [0, 1]) (isR := []) (wc := [(h0, .inr (6, [.ref hs, .int len])), (hs, .inl (tc 1, 120, .inl signs))]) (wr := []) hP hD hS hA rfl rfl (by decide) (by decide) (fc_runV (isC := [0, 1]) (As := [.int x2h10]) (rest := [.int (x2h10 + 1)]) hx hb hml hown hts hK hE hP hD hS hA rfl (by decide) (c_X6_signAt l D tc h0 hs signs len x2h10 _ ) (cwV 1 hts gX6_firstError_X6_signAt rfl rfl rfl hd_X6_signAt ⟨Nat.le_of_ble_eq_true rfl, Nat.le_of_ble_eq_true rfl⟩) (ci := 6) rfl rfl rfl rfl hl.1 rfl (Nat.le_of_ble_eq_true rfl) dX6_firstError_40 ⟨Nat.le_of_ble_eq_true rfl, Nat.le_of_ble_eq_true rfl⟩) (fun r_6 u_6 H locs hw_6 hP hD hS => ?_)
            try dsimp only at hw_6
            have hP : va_P D vwCl [(h0, .inr (6, [.ref hs, .int len])), (hs, .inl (tc 1, 120, .inl signs))] H := hP
            have hD : va_D A [(h0, .inr (6, [.ref hs, .int len])), (hs, .inl (tc 1, 120, .inl signs))] := hD
            refine fc_goi (isC := []) (isR := [0, 1]) (wc := []) (wr := [(h0, .inr (6, [.ref hs, .int len])), (hs, .inl (tc 1, 120, .inl signs))]) hP hD hS hA rfl rfl (by decide) (by decide) (fc_runSN (isC := []) (As := [.int r_6]) (rest := [.int (x2h10 + 1)]) (host := "FrameCard") hx hb hml hown hts hK hE hP hD hS hA rfl (by decide) (c_X7_digitsBehind l D tc r_6 _ ) ⟨va_cnB 1 hts gX6_firstError_X7_digitsBehind_n33 rfl rfl rfl (hE.nz 38 (w := .methodLinkNest "FrameCard$Text" 33 yX7_digitsBehind "FrameCard") rfl) (hts (.initialized RX7) (by decide +kernel)) hd_X7_digitsBehindn ⟨Nat.le_of_ble_eq_true rfl, Nat.le_of_ble_eq_true rfl⟩, hts (.static yX7_digitsBehind) (by decide +kernel), trivial⟩ rfl hl.1 rfl (Nat.le_of_ble_eq_true rfl) dX6_firstError_43 ⟨Nat.le_of_ble_eq_true rfl, Nat.le_of_ble_eq_true rfl⟩) (fun r_7 u_7 H locs hw_7 hP hD hS => ?_)
            try dsimp only at hw_7
            have hP : va_P D vwCl [(h0, .inr (6, [.ref hs, .int len])), (hs, .inl (tc 1, 120, .inl signs))] H := hP
            have hD : va_D A [(h0, .inr (6, [.ref hs, .int len])), (hs, .inl (tc 1, 120, .inl signs))] := hD
            refine lv_iadd hx hb dX6_firstError_46 ?_
            refine lv_istore_n (lv' := [(2, .int ((x2h10 + 1) + r_7)), (1, .int r_5), (3, .int x3h10), (0, .ref h0)]) hx hb dX6_firstError_47 rfl hl (by decide) rfl (fun ls hl => ?_)
            refine lv_iinc (v := (x3h10 + 1)) (lv' := [(3, .int (x3h10 + 1)), (2, .int ((x2h10 + 1) + r_7)), (1, .int r_5), (0, .ref h0)]) hx hb dX6_firstError_48 hl (k := 2) rfl rfl (by decide) rfl (fun ls hl => ?_)
            refine lv_goto (tgt := 10) hx hb dX6_firstError_51 (by decide) ?_
            exact ih_10 (i_10 + 1) r_5 ((x2h10 + 1) + r_7) (x3h10 + 1) (by rw [hb_10]; exact nI_1 _) (by have l_mm1m : ((-1) : Int32).toInt = (-1) := (by decide); have l_120 : (120 : Int32).toInt = 120 := (by decide); have qc_2 := c_2; (try simp only [fc_le, fc_lt, fc_eq] at qc_2); have qc_3 := c_3; (try simp only [fc_le, fc_lt, fc_eq] at qc_3); have qc_4 := c_4; (try simp only [fc_le, fc_lt, fc_eq] at qc_4); skip; omega) (by rw [hI_10, mX6_firstError_L10_s, mX6_firstError_S10]; (try dsimp only); rw [if_neg c_2]; rw [if_pos c_3]; rw [if_neg c_4]; rw [hw_5]; (try dsimp only); rw [hw_6]; (try dsimp only); rw [hw_7]; (try dsimp only); (first | done | rfl)) _ _ (hP.sub [0, 1] rfl) (hD.sub [0, 1] (by decide) rfl) hS ls (lv_sub hl [0, 1, 2, 3] rfl)
  exact loop_10 121 0 r_1 7 0 nI_0.symm (by omega) (by rw [mX6_firstError]; (try dsimp only); rw [hw_1]; (try dsimp only); (first | done | rfl)) _ _ (hP.sub [0, 1] rfl) (hD.sub [0, 1] (by decide) rfl) hS ls (lv_sub hl [0, 1, 2, 3] rfl)
