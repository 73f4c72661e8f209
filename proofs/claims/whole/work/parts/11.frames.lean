/-! Frames -/
noncomputable def mX1_has (fl : Int32) (p0 : Int32) : Int32 :=
  if p0 < 0 then
    0
  else
    if fl ≤ p0 then
      0
    else
      1
set_option maxRecDepth 20000 in
theorem iX1_has_X1 : ∀ w ∈ wsX10, w ∈ wsX1_has := by decide +kernel
abbrev rmX1_has : Room := { frames := 0, cells := 0, slots := 0, locals := 0 }
set_option maxHeartbeats 4000000 in
set_option maxRecDepth 100000 in
theorem c_X1_has (l : Launch) (D : va_G) (tc : Nat → ClassId) (h0 : Nat) (hc : Nat) (fl : Int32) (p0 : Int32) (sz : Nat) : Met l yX1_has wsX1_has rmX1_has (va_Pc [.ref h0, .int p0] (fcB D tc [(h0, .inr (1, [.ref hc, .int fl]))] sz)) (va_Qi (fun (r : Int32) (_ : Unit) => mX1_has fl p0 = r) (fun u t => fcO D (va_A [(h0, .inr (1, [.ref hc, .int fl]))] sz) ((fun (_ : Unit) => [(h0, .inr (1, [.ref hc, .int fl]))]) u) t) (va_A [(h0, .inr (1, [.ref hc, .int fl]))] sz)) 0 0 (va_A [(h0, .inr (1, [.ref hc, .int fl]))] sz) := by
  refine fc_ofWz (own := RX1) (cc := cX1_has) (maxL := 2) (W1 := (fun (_ : Unit) => [(h0, .inr (1, [.ref hc, .int fl]))])) rfl (by decide) rfl (Nat.le_of_ble_eq_true rfl) ?_
  intro p e s m args below meth c A Q hx hb hml hown hts hK hE hP hD hS hA hin hret ls hl
  have hl : lv_has ls 2 [(0, .ref h0), (1, .int p0)] := hl
  refine lv_iload_n hx hb dX1_has_0 rfl (lv_at hl 1 rfl) ?_
  refine lv_if_lt (tgt := 16) hx hb dX1_has_1 (by decide) (fun c_1 => ?_) (fun c_1 => ?_)
  · refine lv_iconst (v := 0) hx hb dX1_has_16 (by decide) ?_
    exact hret _ _ (0) () _ _ (Or.inl rfl) (by rw [mX1_has]; (try dsimp only); rw [if_pos c_1]; (first | done | rfl)) (hP.sub [0] rfl) (hD.sub [0] (by decide) rfl) hS dX1_has_17
  · refine lv_iload_n hx hb dX1_has_4 rfl (lv_at hl 1 rfl) ?_
    refine lv_aload_n hx hb dX1_has_5 rfl (lv_at hl 0 rfl) ?_
    refine va_get (D := D) (ci := 1) (v := .int fl) (C := RX1) (T := TX1) (N := 2) hx hb hts iX1_has_X1 hown hK hP 0 rfl rfl 1 (by decide) (hts (.fieldLink RX1 15 "FrameCard$Frames" "length" "I") (by decide +kernel)) (fun _ h9 => h9) rfl dX1_has_6 ?_
    refine lv_icmp_ge (tgt := 16) hx hb dX1_has_9 (by decide) (fun c_2 => ?_) (fun c_2 => ?_)
    · refine lv_iconst (v := 0) hx hb dX1_has_16 (by decide) ?_
      exact hret _ _ (0) () _ _ (Or.inl rfl) (by rw [mX1_has]; (try dsimp only); rw [if_neg c_1]; rw [if_pos c_2]; (first | done | rfl)) (hP.sub [0] rfl) (hD.sub [0] (by decide) rfl) hS dX1_has_17
    · refine lv_iconst (v := 1) hx hb dX1_has_12 (by decide) ?_
      refine lv_goto (tgt := 17) hx hb dX1_has_13 (by decide) ?_
      exact hret _ _ (1) () _ _ (Or.inr rfl) (by rw [mX1_has]; (try dsimp only); rw [if_neg c_1]; rw [if_neg c_2]; (first | done | rfl)) (hP.sub [0] rfl) (hD.sub [0] (by decide) rfl) hS dX1_has_17
theorem fc_has {fl i r : Int32} (h : mX1_has fl i = r) (hr : ¬ r = 0) : 0 ≤ i.toInt ∧ i.toInt < fl.toInt := by
  subst h
  by_cases h1 : i < 0
  · simp [mX1_has, h1] at hr
  · by_cases h2 : fl ≤ i
    · simp [mX1_has, h1, h2] at hr
    · rw [fc_lt] at h1
      rw [fc_le] at h2
      have l0 : (0 : Int32).toInt = 0 := by decide
      omega
noncomputable def mX1_get (N : Nat) (fc : Nat → Int32) (fl : Int32) (p0 : Int32) (p1 : Int32) : Int32 :=
  if p0 < 0 then
    (-1)
  else
    if fl ≤ p0 then
      (-1)
    else
      if ((p0 * 7) + p1) < 0 then
        (-1)
      else
        if (nI N) ≤ ((p0 * 7) + p1) then
          (-1)
        else
          (fc (((p0 * 7) + p1) : Int32).toNatClampNeg)
set_option maxRecDepth 20000 in
theorem iX1_get_X1 : ∀ w ∈ wsX10, w ∈ wsX1_get := by decide +kernel
abbrev rmX1_get : Room := { frames := 0, cells := 0, slots := 0, locals := 0 }
set_option maxHeartbeats 4000000 in
set_option maxRecDepth 100000 in
theorem c_X1_get (l : Launch) (D : va_G) (tc : Nat → ClassId) (h0 : Nat) (hc : Nat) (N : Nat) (fc : Nat → Int32) (fl : Int32) (p0 : Int32) (p1 : Int32) (sz : Nat) (hN : N < 1000) : Met l yX1_get wsX1_get rmX1_get (va_Pc [.ref h0, .int p0, .int p1] (fcB D tc [(h0, .inr (1, [.ref hc, .int fl])), (hc, .inl (tc 0, N, .inl fc))] sz)) (va_Qi (fun (r : Int32) (_ : Unit) => mX1_get N fc fl p0 p1 = r) (fun u t => fcO D (va_A [(h0, .inr (1, [.ref hc, .int fl])), (hc, .inl (tc 0, N, .inl fc))] sz) ((fun (_ : Unit) => [(h0, .inr (1, [.ref hc, .int fl])), (hc, .inl (tc 0, N, .inl fc))]) u) t) (va_A [(h0, .inr (1, [.ref hc, .int fl])), (hc, .inl (tc 0, N, .inl fc))] sz)) 0 0 (va_A [(h0, .inr (1, [.ref hc, .int fl])), (hc, .inl (tc 0, N, .inl fc))] sz) := by
  refine fc_ofWi (own := RX1) (cc := cX1_get) (maxL := 4) (W1 := (fun (_ : Unit) => [(h0, .inr (1, [.ref hc, .int fl])), (hc, .inl (tc 0, N, .inl fc))])) rfl (by decide) rfl (Nat.le_of_ble_eq_true rfl) ?_
  intro p e s m args below meth c A Q hx hb hml hown hts hK hE hP hD hS hA hin hret ls hl
  have hl : lv_has ls 4 [(0, .ref h0), (1, .int p0), (2, .int p1)] := hl
  refine lv_iload_n hx hb dX1_get_0 rfl (lv_at hl 1 rfl) ?_
  refine lv_bipush (v := 7) hx hb dX1_get_1 (by decide) ?_
  refine lv_imul hx hb dX1_get_3 ?_
  refine lv_iload_n hx hb dX1_get_4 rfl (lv_at hl 2 rfl) ?_
  refine lv_iadd hx hb dX1_get_5 ?_
  refine lv_istore_n (lv' := [(3, .int ((p0 * 7) + p1)), (0, .ref h0), (1, .int p0), (2, .int p1)]) hx hb dX1_get_6 rfl hl (by decide) rfl (fun ls hl => ?_)
  refine lv_iload_n hx hb dX1_get_7 rfl (lv_at hl 2 rfl) ?_
  refine lv_if_lt (tgt := 41) hx hb dX1_get_8 (by decide) (fun c_1 => ?_) (fun c_1 => ?_)
  · refine lv_iconst (v := (-1)) hx hb dX1_get_41 (by decide) ?_
    exact hret _ _ (-1) () _ _ (by rw [mX1_get]; (try dsimp only); rw [if_pos c_1]; (first | done | rfl)) (hP.sub [0, 1] rfl) (hD.sub [0, 1] (by decide) rfl) hS dX1_get_42
  · refine lv_iload_n hx hb dX1_get_11 rfl (lv_at hl 2 rfl) ?_
    refine lv_aload_n hx hb dX1_get_12 rfl (lv_at hl 1 rfl) ?_
    refine va_get (D := D) (ci := 1) (v := .int fl) (C := RX1) (T := TX1) (N := 2) hx hb hts iX1_get_X1 hown hK hP 0 rfl rfl 1 (by decide) (hts (.fieldLink RX1 15 "FrameCard$Frames" "length" "I") (by decide +kernel)) (fun _ h9 => h9) rfl dX1_get_13 ?_
    refine lv_icmp_ge (tgt := 41) hx hb dX1_get_16 (by decide) (fun c_2 => ?_) (fun c_2 => ?_)
    · refine lv_iconst (v := (-1)) hx hb dX1_get_41 (by decide) ?_
      exact hret _ _ (-1) () _ _ (by rw [mX1_get]; (try dsimp only); rw [if_neg c_1]; rw [if_pos c_2]; (first | done | rfl)) (hP.sub [0, 1] rfl) (hD.sub [0, 1] (by decide) rfl) hS dX1_get_42
    · refine lv_iload_n hx hb dX1_get_19 rfl (lv_at hl 0 rfl) ?_
      refine lv_if_lt (tgt := 41) hx hb dX1_get_20 (by decide) (fun c_3 => ?_) (fun c_3 => ?_)
      · refine lv_iconst (v := (-1)) hx hb dX1_get_41 (by decide) ?_
        exact hret _ _ (-1) () _ _ (by rw [mX1_get]; (try dsimp only); rw [if_neg c_1]; rw [if_neg c_2]; rw [if_pos c_3]; (first | done | rfl)) (hP.sub [0, 1] rfl) (hD.sub [0, 1] (by decide) rfl) hS dX1_get_42
      · refine lv_iload_n hx hb dX1_get_23 rfl (lv_at hl 0 rfl) ?_
        refine lv_aload_n hx hb dX1_get_24 rfl (lv_at hl 1 rfl) ?_
        refine va_get (D := D) (ci := 1) (v := .ref hc) (C := RX1) (T := TX1) (N := 2) hx hb hts iX1_get_X1 hown hK hP 0 rfl rfl 0 (by decide) (hts (.fieldLink RX1 9 "FrameCard$Frames" "cells" "[I") (by decide +kernel)) (fun _ h9 => h9) rfl dX1_get_25 ?_
        refine va_alen (D := D) hx hb hK hP 1 0 rfl (ty := .int) rfl (v := (nI N)) rfl dX1_get_28 ?_
        refine lv_icmp_ge (tgt := 41) hx hb dX1_get_29 (by decide) (fun c_4 => ?_) (fun c_4 => ?_)
        · refine lv_iconst (v := (-1)) hx hb dX1_get_41 (by decide) ?_
          exact hret _ _ (-1) () _ _ (by rw [mX1_get]; (try dsimp only); rw [if_neg c_1]; rw [if_neg c_2]; rw [if_neg c_3]; rw [if_pos c_4]; (first | done | rfl)) (hP.sub [0, 1] rfl) (hD.sub [0, 1] (by decide) rfl) hS dX1_get_42
        · refine lv_aload_n hx hb dX1_get_32 rfl (lv_at hl 1 rfl) ?_
          refine va_get (D := D) (ci := 1) (v := .ref hc) (C := RX1) (T := TX1) (N := 2) hx hb hts iX1_get_X1 hown hK hP 0 rfl rfl 0 (by decide) (hts (.fieldLink RX1 9 "FrameCard$Frames" "cells" "[I") (by decide +kernel)) (fun _ h9 => h9) rfl dX1_get_33 ?_
          refine lv_iload_n hx hb dX1_get_36 rfl (lv_at hl 0 rfl) ?_
          refine va_iald (D := D) hx hb hK hP 1 0 rfl rfl (by have l_0 : (0 : Int32).toInt = 0 := (by decide); have l_7 : (7 : Int32).toInt = 7 := (by decide); have z_N := fc_nI (n := N) (by omega); have qc_1 := c_1; (try simp only [fc_le, fc_lt, fc_eq] at qc_1); have qc_2 := c_2; (try simp only [fc_le, fc_lt, fc_eq] at qc_2); have qc_3 := c_3; (try simp only [fc_le, fc_lt, fc_eq] at qc_3); have qc_4 := c_4; (try simp only [fc_le, fc_lt, fc_eq] at qc_4); rw [vp_in_iff]; omega) dX1_get_37 ?_
          refine lv_goto (tgt := 42) hx hb dX1_get_38 (by decide) ?_
          exact hret _ _ (fc (((p0 * 7) + p1) : Int32).toNatClampNeg) () _ _ (by rw [mX1_get]; (try dsimp only); rw [if_neg c_1]; rw [if_neg c_2]; rw [if_neg c_3]; rw [if_neg c_4]; (first | done | rfl)) (hP.sub [0, 1] rfl) (hD.sub [0, 1] (by decide) rfl) hS dX1_get_42
noncomputable def mX1_put (N : Nat) (fc : Nat → Int32) (fl : Int32) (p0 : Int32) (p1 : Int32) (p2 : Int32) : Nat → Int32 :=
  if p0 < 0 then
    fc
  else
    if fl ≤ p0 then
      fc
    else
      if ((p0 * 7) + p1) < 0 then
        fc
      else
        if (nI N) ≤ ((p0 * 7) + p1) then
          fc
        else
          (upd fc (((p0 * 7) + p1) : Int32).toNatClampNeg p2)
set_option maxRecDepth 20000 in
theorem iX1_put_X1 : ∀ w ∈ wsX10, w ∈ wsX1_put := by decide +kernel
abbrev rmX1_put : Room := { frames := 0, cells := 0, slots := 0, locals := 0 }
set_option maxHeartbeats 4000000 in
set_option maxRecDepth 100000 in
theorem c_X1_put (l : Launch) (D : va_G) (tc : Nat → ClassId) (h0 : Nat) (hc : Nat) (N : Nat) (fc : Nat → Int32) (fl : Int32) (p0 : Int32) (p1 : Int32) (p2 : Int32) (sz : Nat) (hN : N < 1000) : Met l yX1_put wsX1_put rmX1_put (va_Pc [.ref h0, .int p0, .int p1, .int p2] (fcB D tc [(h0, .inr (1, [.ref hc, .int fl])), (hc, .inl (tc 0, N, .inl fc))] sz)) (va_Qv (fun (u : Nat → Int32) => mX1_put N fc fl p0 p1 p2 = u) (fun u t => fcO D (va_A [(h0, .inr (1, [.ref hc, .int fl])), (hc, .inl (tc 0, N, .inl fc))] sz) ((fun (u : Nat → Int32) => [(h0, .inr (1, [.ref hc, .int fl])), (hc, .inl (tc 0, N, .inl u))]) u) t) (va_A [(h0, .inr (1, [.ref hc, .int fl])), (hc, .inl (tc 0, N, .inl fc))] sz)) 0 0 (va_A [(h0, .inr (1, [.ref hc, .int fl])), (hc, .inl (tc 0, N, .inl fc))] sz) := by
  refine fc_ofWv (own := RX1) (cc := cX1_put) (maxL := 5) (W1 := (fun (u : Nat → Int32) => [(h0, .inr (1, [.ref hc, .int fl])), (hc, .inl (tc 0, N, .inl u))])) rfl (by decide) rfl (Nat.le_of_ble_eq_true rfl) ?_
  intro p e s m args below meth c A Q hx hb hml hown hts hK hE hP hD hS hA hin hret ls hl
  have hl : lv_has ls 5 [(0, .ref h0), (1, .int p0), (2, .int p1), (3, .int p2)] := hl
  refine lv_iload_n hx hb dX1_put_0 rfl (lv_at hl 1 rfl) ?_
  refine lv_bipush (v := 7) hx hb dX1_put_1 (by decide) ?_
  refine lv_imul hx hb dX1_put_3 ?_
  refine lv_iload_n hx hb dX1_put_4 rfl (lv_at hl 2 rfl) ?_
  refine lv_iadd hx hb dX1_put_5 ?_
  refine lv_istore (lv' := [(4, .int ((p0 * 7) + p1)), (0, .ref h0), (1, .int p0), (2, .int p1), (3, .int p2)]) hx hb dX1_put_6 hl (by decide) rfl (fun ls hl => ?_)
  refine lv_iload_n hx hb dX1_put_8 rfl (lv_at hl 2 rfl) ?_
  refine lv_if_lt (tgt := 43) hx hb dX1_put_9 (by decide) (fun c_1 => ?_) (fun c_1 => ?_)
  · exact hret _ _ fc _ _ (by rw [mX1_put]; (try dsimp only); rw [if_pos c_1]; (first | done | rfl)) (hP.sub [0, 1] rfl) (hD.sub [0, 1] (by decide) rfl) hS dX1_put_43
  · refine lv_iload_n hx hb dX1_put_12 rfl (lv_at hl 2 rfl) ?_
    refine lv_aload_n hx hb dX1_put_13 rfl (lv_at hl 1 rfl) ?_
    refine va_get (D := D) (ci := 1) (v := .int fl) (C := RX1) (T := TX1) (N := 2) hx hb hts iX1_put_X1 hown hK hP 0 rfl rfl 1 (by decide) (hts (.fieldLink RX1 15 "FrameCard$Frames" "length" "I") (by decide +kernel)) (fun _ h9 => h9) rfl dX1_put_14 ?_
    refine lv_icmp_ge (tgt := 43) hx hb dX1_put_17 (by decide) (fun c_2 => ?_) (fun c_2 => ?_)
    · exact hret _ _ fc _ _ (by rw [mX1_put]; (try dsimp only); rw [if_neg c_1]; rw [if_pos c_2]; (first | done | rfl)) (hP.sub [0, 1] rfl) (hD.sub [0, 1] (by decide) rfl) hS dX1_put_43
    · refine lv_iload hx hb dX1_put_20 (lv_at hl 0 rfl) ?_
      refine lv_if_lt (tgt := 43) hx hb dX1_put_22 (by decide) (fun c_3 => ?_) (fun c_3 => ?_)
      · exact hret _ _ fc _ _ (by rw [mX1_put]; (try dsimp only); rw [if_neg c_1]; rw [if_neg c_2]; rw [if_pos c_3]; (first | done | rfl)) (hP.sub [0, 1] rfl) (hD.sub [0, 1] (by decide) rfl) hS dX1_put_43
      · refine lv_iload hx hb dX1_put_25 (lv_at hl 0 rfl) ?_
        refine lv_aload_n hx hb dX1_put_27 rfl (lv_at hl 1 rfl) ?_
        refine va_get (D := D) (ci := 1) (v := .ref hc) (C := RX1) (T := TX1) (N := 2) hx hb hts iX1_put_X1 hown hK hP 0 rfl rfl 0 (by decide) (hts (.fieldLink RX1 9 "FrameCard$Frames" "cells" "[I") (by decide +kernel)) (fun _ h9 => h9) rfl dX1_put_28 ?_
        refine va_alen (D := D) hx hb hK hP 1 0 rfl (ty := .int) rfl (v := (nI N)) rfl dX1_put_31 ?_
        refine lv_icmp_ge (tgt := 43) hx hb dX1_put_32 (by decide) (fun c_4 => ?_) (fun c_4 => ?_)
        · exact hret _ _ fc _ _ (by rw [mX1_put]; (try dsimp only); rw [if_neg c_1]; rw [if_neg c_2]; rw [if_neg c_3]; rw [if_pos c_4]; (first | done | rfl)) (hP.sub [0, 1] rfl) (hD.sub [0, 1] (by decide) rfl) hS dX1_put_43
        · refine lv_aload_n hx hb dX1_put_35 rfl (lv_at hl 1 rfl) ?_
          refine va_get (D := D) (ci := 1) (v := .ref hc) (C := RX1) (T := TX1) (N := 2) hx hb hts iX1_put_X1 hown hK hP 0 rfl rfl 0 (by decide) (hts (.fieldLink RX1 9 "FrameCard$Frames" "cells" "[I") (by decide +kernel)) (fun _ h9 => h9) rfl dX1_put_36 ?_
          refine lv_iload hx hb dX1_put_39 (lv_at hl 0 rfl) ?_
          refine lv_iload_n hx hb dX1_put_41 rfl (lv_at hl 4 rfl) ?_
          refine va_iast (D := D) hx hb hK hP hD hS 1 0 rfl rfl (by have l_0 : (0 : Int32).toInt = 0 := (by decide); have l_7 : (7 : Int32).toInt = 7 := (by decide); have z_N := fc_nI (n := N) (by omega); have qc_1 := c_1; (try simp only [fc_le, fc_lt, fc_eq] at qc_1); have qc_2 := c_2; (try simp only [fc_le, fc_lt, fc_eq] at qc_2); have qc_3 := c_3; (try simp only [fc_le, fc_lt, fc_eq] at qc_3); have qc_4 := c_4; (try simp only [fc_le, fc_lt, fc_eq] at qc_4); rw [vp_in_iff]; omega) dX1_put_42 (fun H locs hP hD hS => ?_)
          have hP : va_P D vwCl [(h0, .inr (1, [.ref hc, .int fl])), (hc, .inl (tc 0, N, .inl (upd fc (((p0 * 7) + p1) : Int32).toNatClampNeg p2)))] H := hP
          have hD : va_D A [(h0, .inr (1, [.ref hc, .int fl])), (hc, .inl (tc 0, N, .inl (upd fc (((p0 * 7) + p1) : Int32).toNatClampNeg p2)))] := hD
          exact hret _ _ (upd fc (((p0 * 7) + p1) : Int32).toNatClampNeg p2) _ _ (by rw [mX1_put]; (try dsimp only); rw [if_neg c_1]; rw [if_neg c_2]; rw [if_neg c_3]; rw [if_neg c_4]; (first | done | rfl)) (hP.sub [0, 1] rfl) (hD.sub [0, 1] (by decide) rfl) hS dX1_put_43
theorem hd_X1_put : yX1_put.cls = RX1 ∧ yX1_put.cls ≠ "java/lang/invoke/MethodHandle" ∧ yX1_put.cls ≠ "java/lang/invoke/VarHandle" ∧ (parseMethodDescriptor yX1_put.desc).map (fun d => d.parameters.length) = some 3 := by decide +kernel
theorem hd_X1_putn : yX1_put.cls ≠ "java/lang/invoke/MethodHandle" ∧ yX1_put.cls ≠ "java/lang/invoke/VarHandle" ∧ (parseMethodDescriptor yX1_put.desc).map (fun d => d.parameters.length) = some 3 := by decide +kernel
noncomputable def mX1_add (N : Nat) (fc : Nat → Int32) (fl : Int32) (p0 : Int32) (p1 : Int32) (p2 : Int32) (p3 : Int32) : Int32 × (Nat → Int32) :=
  let fc_1 := mX1_put N fc (fl + 1) fl 0 p0
  let fc_2 := mX1_put N fc_1 (fl + 1) fl 1 p1
  let fc_3 := mX1_put N fc_2 (fl + 1) fl 2 p2
  let fc_4 := mX1_put N fc_3 (fl + 1) fl 3 p3
  ((fl + 1), fc_4)
set_option maxRecDepth 20000 in
theorem iX1_add_X1 : ∀ w ∈ wsX10, w ∈ wsX1_add := by decide +kernel
abbrev rmX1_add : Room := { frames := 1, cells := 0, slots := 0, locals := 24 }
set_option maxHeartbeats 4000000 in
set_option maxRecDepth 100000 in
theorem c_X1_add (l : Launch) (D : va_G) (tc : Nat → ClassId) (h0 : Nat) (hc : Nat) (N : Nat) (fc : Nat → Int32) (fl : Int32) (p0 : Int32) (p1 : Int32) (p2 : Int32) (p3 : Int32) (sz : Nat) (hN : N < 1000) : Met l yX1_add wsX1_add rmX1_add (va_Pc [.ref h0, .int p0, .int p1, .int p2, .int p3] (fcB D tc [(h0, .inr (1, [.ref hc, .int fl])), (hc, .inl (tc 0, N, .inl fc))] sz)) (va_Qv (fun (u : Int32 × (Nat → Int32)) => mX1_add N fc fl p0 p1 p2 p3 = u) (fun u t => fcO D (va_A [(h0, .inr (1, [.ref hc, .int fl])), (hc, .inl (tc 0, N, .inl fc))] sz) ((fun (u : Int32 × (Nat → Int32)) => [(h0, .inr (1, [.ref hc, .int (u.1)])), (hc, .inl (tc 0, N, .inl (u.2)))]) u) t) (va_A [(h0, .inr (1, [.ref hc, .int fl])), (hc, .inl (tc 0, N, .inl fc))] sz)) 0 0 (va_A [(h0, .inr (1, [.ref hc, .int fl])), (hc, .inl (tc 0, N, .inl fc))] sz) := by
  refine fc_ofWv (own := RX1) (cc := cX1_add) (maxL := 6) (W1 := (fun (u : Int32 × (Nat → Int32)) => [(h0, .inr (1, [.ref hc, .int (u.1)])), (hc, .inl (tc 0, N, .inl (u.2)))])) rfl (by decide) rfl (Nat.le_of_ble_eq_true rfl) ?_
  intro p e s m args below meth c A Q hx hb hml hown hts hK hE hP hD hS hA hin hret ls hl
  have hl : lv_has ls 6 [(0, .ref h0), (1, .int p0), (2, .int p1), (3, .int p2), (4, .int p3)] := hl
  refine lv_aload_n hx hb dX1_add_0 rfl (lv_at hl 0 rfl) ?_
  refine va_get (D := D) (ci := 1) (v := .int fl) (C := RX1) (T := TX1) (N := 2) hx hb hts iX1_add_X1 hown hK hP 0 rfl rfl 1 (by decide) (hts (.fieldLink RX1 15 "FrameCard$Frames" "length" "I") (by decide +kernel)) (fun _ h9 => h9) rfl dX1_add_1 ?_
  refine lv_istore (lv' := [(5, .int fl), (0, .ref h0), (1, .int p0), (2, .int p1), (3, .int p2), (4, .int p3)]) hx hb dX1_add_4 hl (by decide) rfl (fun ls hl => ?_)
  refine lv_aload_n hx hb dX1_add_6 rfl (lv_at hl 1 rfl) ?_
  refine lv_dup hx hb dX1_add_7 rfl ?_
  refine va_get (D := D) (ci := 1) (v := .int fl) (C := RX1) (T := TX1) (N := 2) hx hb hts iX1_add_X1 hown hK hP 0 rfl rfl 1 (by decide) (hts (.fieldLink RX1 15 "FrameCard$Frames" "length" "I") (by decide +kernel)) (fun _ h9 => h9) rfl dX1_add_8 ?_
  refine lv_iconst (v := 1) hx hb dX1_add_11 (by decide) ?_
  refine lv_iadd hx hb dX1_add_12 ?_
  refine va_put (D := D) (ci := 1) (v := .int (fl + 1)) (ty := .int) (C := RX1) (T := TX1) (N := 2) hx hb hts iX1_add_X1 tyX1 tyX1_ok nmX1 hown hK hP hD hS 0 rfl rfl 1 (by decide) (hts (.fieldLink RX1 15 "FrameCard$Frames" "length" "I") (by decide +kernel)) (fun _ h9 => h9) rfl (by decide +kernel) rfl rfl (Nat.le_of_ble_eq_true rfl) dX1_add_13 (fun H locs hP hD hS => ?_)
  have hP : va_P D vwCl [(h0, .inr (1, [.ref hc, .int (fl + 1)])), (hc, .inl (tc 0, N, .inl fc))] H := hP
  have hD : va_D A [(h0, .inr (1, [.ref hc, .int (fl + 1)])), (hc, .inl (tc 0, N, .inl fc))] := hD
  refine lv_aload_n hx hb dX1_add_16 rfl (lv_at hl 1 rfl) ?_
  refine lv_iload hx hb dX1_add_17 (lv_at hl 0 rfl) ?_
  refine lv_iconst (v := 0) hx hb dX1_add_19 (by decide) ?_
  refine lv_iload_n hx hb dX1_add_20 rfl (lv_at hl 2 rfl) ?_
  refine fc_gov (isC := [0, 1]) (isR := []) (wc := [(h0, .inr (1, [.ref hc, .int (fl + 1)])), (hc, .inl (tc 0, N, .inl fc))]) (wr := []) hP hD hS hA rfl rfl (by decide) (by decide) (fc_runV (isC := [0, 1]) (As := [.int fl, .int 0, .int p0]) (rest := []) hx hb hml hown hts hK hE hP hD hS hA rfl (by decide) (c_X1_put l D tc h0 hc N fc (fl + 1) fl 0 p0 _ (by have l_0 : (0 : Int32).toInt = 0 := (by decide); have l_1 : (1 : Int32).toInt = 1 := (by decide); (try simp only [fc_le, fc_lt, fc_eq]); omega)) (cwV 3 hts gX1_add_X1_put rfl rfl rfl hd_X1_put ⟨Nat.le_of_ble_eq_true rfl, Nat.le_of_ble_eq_true rfl⟩) (ci := 1) rfl rfl rfl rfl hl.1 rfl (Nat.le_of_ble_eq_true rfl) dX1_add_21 ⟨Nat.le_of_ble_eq_true rfl, Nat.le_of_ble_eq_true rfl⟩) (fun u_1 H locs hw_1 hP hD hS => ?_)
  obtain ⟨fc_1, rfl⟩ : ∃ z, z = u_1 := ⟨_, rfl⟩
  try dsimp only at hw_1
  have hP : va_P D vwCl [(h0, .inr (1, [.ref hc, .int (fl + 1)])), (hc, .inl (tc 0, N, .inl fc_1))] H := hP
  have hD : va_D A [(h0, .inr (1, [.ref hc, .int (fl + 1)])), (hc, .inl (tc 0, N, .inl fc_1))] := hD
  refine lv_aload_n hx hb dX1_add_24 rfl (lv_at hl 1 rfl) ?_
  refine lv_iload hx hb dX1_add_25 (lv_at hl 0 rfl) ?_
  refine lv_iconst (v := 1) hx hb dX1_add_27 (by decide) ?_
  refine lv_iload_n hx hb dX1_add_28 rfl (lv_at hl 3 rfl) ?_
  refine fc_gov (isC := [0, 1]) (isR := []) (wc := [(h0, .inr (1, [.ref hc, .int (fl + 1)])), (hc, .inl (tc 0, N, .inl fc_1))]) (wr := []) hP hD hS hA rfl rfl (by decide) (by decide) (fc_runV (isC := [0, 1]) (As := [.int fl, .int 1, .int p1]) (rest := []) hx hb hml hown hts hK hE hP hD hS hA rfl (by decide) (c_X1_put l D tc h0 hc N fc_1 (fl + 1) fl 1 p1 _ (by have l_1 : (1 : Int32).toInt = 1 := (by decide); (try simp only [fc_le, fc_lt, fc_eq]); omega)) (cwV 3 hts gX1_add_X1_put rfl rfl rfl hd_X1_put ⟨Nat.le_of_ble_eq_true rfl, Nat.le_of_ble_eq_true rfl⟩) (ci := 1) rfl rfl rfl rfl hl.1 rfl (Nat.le_of_ble_eq_true rfl) dX1_add_29 ⟨Nat.le_of_ble_eq_true rfl, Nat.le_of_ble_eq_true rfl⟩) (fun u_2 H locs hw_2 hP hD hS => ?_)
  obtain ⟨fc_2, rfl⟩ : ∃ z, z = u_2 := ⟨_, rfl⟩
  try dsimp only at hw_2
  have hP : va_P D vwCl [(h0, .inr (1, [.ref hc, .int (fl + 1)])), (hc, .inl (tc 0, N, .inl fc_2))] H := hP
  have hD : va_D A [(h0, .inr (1, [.ref hc, .int (fl + 1)])), (hc, .inl (tc 0, N, .inl fc_2))] := hD
  refine lv_aload_n hx hb dX1_add_32 rfl (lv_at hl 1 rfl) ?_
  refine lv_iload hx hb dX1_add_33 (lv_at hl 0 rfl) ?_
  refine lv_iconst (v := 2) hx hb dX1_add_35 (by decide) ?_
  refine lv_iload_n hx hb dX1_add_36 rfl (lv_at hl 4 rfl) ?_
  refine fc_gov (isC := [0, 1]) (isR := []) (wc := [(h0, .inr (1, [.ref hc, .int (fl + 1)])), (hc, .inl (tc 0, N, .inl fc_2))]) (wr := []) hP hD hS hA rfl rfl (by decide) (by decide) (fc_runV (isC := [0, 1]) (As := [.int fl, .int 2, .int p2]) (rest := []) hx hb hml hown hts hK hE hP hD hS hA rfl (by decide) (c_X1_put l D tc h0 hc N fc_2 (fl + 1) fl 2 p2 _ (by have l_1 : (1 : Int32).toInt = 1 := (by decide); have l_2 : (2 : Int32).toInt = 2 := (by decide); (try simp only [fc_le, fc_lt, fc_eq]); omega)) (cwV 3 hts gX1_add_X1_put rfl rfl rfl hd_X1_put ⟨Nat.le_of_ble_eq_true rfl, Nat.le_of_ble_eq_true rfl⟩) (ci := 1) rfl rfl rfl rfl hl.1 rfl (Nat.le_of_ble_eq_true rfl) dX1_add_37 ⟨Nat.le_of_ble_eq_true rfl, Nat.le_of_ble_eq_true rfl⟩) (fun u_3 H locs hw_3 hP hD hS => ?_)
  obtain ⟨fc_3, rfl⟩ : ∃ z, z = u_3 := ⟨_, rfl⟩
  try dsimp only at hw_3
  have hP : va_P D vwCl [(h0, .inr (1, [.ref hc, .int (fl + 1)])), (hc, .inl (tc 0, N, .inl fc_3))] H := hP
  have hD : va_D A [(h0, .inr (1, [.ref hc, .int (fl + 1)])), (hc, .inl (tc 0, N, .inl fc_3))] := hD
  refine lv_aload_n hx hb dX1_add_40 rfl (lv_at hl 1 rfl) ?_
  refine lv_iload hx hb dX1_add_41 (lv_at hl 0 rfl) ?_
  refine lv_iconst (v := 3) hx hb dX1_add_43 (by decide) ?_
  refine lv_iload hx hb dX1_add_44 (lv_at hl 5 rfl) ?_
  refine fc_gov (isC := [0, 1]) (isR := []) (wc := [(h0, .inr (1, [.ref hc, .int (fl + 1)])), (hc, .inl (tc 0, N, .inl fc_3))]) (wr := []) hP hD hS hA rfl rfl (by decide) (by decide) (fc_runV (isC := [0, 1]) (As := [.int fl, .int 3, .int p3]) (rest := []) hx hb hml hown hts hK hE hP hD hS hA rfl (by decide) (c_X1_put l D tc h0 hc N fc_3 (fl + 1) fl 3 p3 _ (by have l_1 : (1 : Int32).toInt = 1 := (by decide); have l_3 : (3 : Int32).toInt = 3 := (by decide); (try simp only [fc_le, fc_lt, fc_eq]); omega)) (cwV 3 hts gX1_add_X1_put rfl rfl rfl hd_X1_put ⟨Nat.le_of_ble_eq_true rfl, Nat.le_of_ble_eq_true rfl⟩) (ci := 1) rfl rfl rfl rfl hl.1 rfl (Nat.le_of_ble_eq_true rfl) dX1_add_46 ⟨Nat.le_of_ble_eq_true rfl, Nat.le_of_ble_eq_true rfl⟩) (fun u_4 H locs hw_4 hP hD hS => ?_)
  obtain ⟨fc_4, rfl⟩ : ∃ z, z = u_4 := ⟨_, rfl⟩
  try dsimp only at hw_4
  have hP : va_P D vwCl [(h0, .inr (1, [.ref hc, .int (fl + 1)])), (hc, .inl (tc 0, N, .inl fc_4))] H := hP
  have hD : va_D A [(h0, .inr (1, [.ref hc, .int (fl + 1)])), (hc, .inl (tc 0, N, .inl fc_4))] := hD
  exact hret _ _ ((fl + 1), fc_4) _ _ (by rw [mX1_add]; (try dsimp only); rw [hw_1]; (try dsimp only); rw [hw_2]; (try dsimp only); rw [hw_3]; (try dsimp only); rw [hw_4]; (try dsimp only); (first | done | rfl)) (hP.sub [0, 1] rfl) (hD.sub [0, 1] (by decide) rfl) hS dX1_add_49
noncomputable def mX7_difference_S10 (p0 : Int32) (p1 : Int32) (ih_10 : Int32 → Int32 → Int32 → Int32 → Int32) (x2h10 : Int32) (x3h10 : Int32) (x4h10 : Int32) (x5h10 : Int32) : Int32 :=
  if 6 ≤ x5h10 then
    x2h10
  else
    if 0 ≤ ((x3h10 - x3h10 / 10 * 10) - (x4h10 - x4h10 / 10 * 10)) then
      ih_10 (x2h10 + ((x3h10 - x3h10 / 10 * 10) - (x4h10 - x4h10 / 10 * 10))) (x3h10 / 10) (x4h10 / 10) (x5h10 + 1)
    else
      ih_10 (x2h10 + (-((x3h10 - x3h10 / 10 * 10) - (x4h10 - x4h10 / 10 * 10)))) (x3h10 / 10) (x4h10 / 10) (x5h10 + 1)
noncomputable def mX7_difference_L10 (p0 : Int32) (p1 : Int32) (k : Nat) : Int32 → Int32 → Int32 → Int32 → Int32 := Nat.rec (motive := fun _ => Int32 → Int32 → Int32 → Int32 → Int32) (fun x2h10 x3h10 x4h10 x5h10 => 0) (fun _ ih => mX7_difference_S10 p0 p1 ih) k
theorem mX7_difference_L10_z (p0 : Int32) (p1 : Int32) (x2h10 : Int32) (x3h10 : Int32) (x4h10 : Int32) (x5h10 : Int32) : mX7_difference_L10 p0 p1 0 x2h10 x3h10 x4h10 x5h10 = 0 := rfl
theorem mX7_difference_L10_s (p0 : Int32) (p1 : Int32) (k : Nat) (x2h10 : Int32) (x3h10 : Int32) (x4h10 : Int32) (x5h10 : Int32) : mX7_difference_L10 p0 p1 (k + 1) x2h10 x3h10 x4h10 x5h10 = mX7_difference_S10 p0 p1 (mX7_difference_L10 p0 p1 k) x2h10 x3h10 x4h10 x5h10 := rfl
noncomputable def mX7_difference (p0 : Int32) (p1 : Int32) : Int32 :=
  mX7_difference_L10 p0 p1 7 0 p0 p1 0
abbrev rmX7_difference : Room := { frames := 0, cells := 0, slots := 0, locals := 0 }
set_option maxHeartbeats 4000000 in
set_option maxRecDepth 100000 in
theorem c_X7_difference (l : Launch) (D : va_G) (tc : Nat → ClassId) (p0 : Int32) (p1 : Int32) (sz : Nat) : Met l yX7_difference wsX7_difference rmX7_difference (va_Pc [.int p0, .int p1] (fcB D tc [] sz)) (va_Qi (fun (r : Int32) (_ : Unit) => mX7_difference p0 p1 = r) (fun u t => fcO D (va_A [] sz) ((fun (_ : Unit) => []) u) t) (va_A [] sz)) 0 0 (va_A [] sz) := by
  refine fc_ofWi (own := RX7) (cc := cX7_difference) (maxL := 7) (W1 := (fun (_ : Unit) => [])) rfl (by decide) rfl (Nat.le_of_ble_eq_true rfl) ?_
  intro p e s m args below meth c A Q hx hb hml hown hts hK hE hP hD hS hA hin hret ls hl
  have hl : lv_has ls 7 [(0, .int p0), (1, .int p1)] := hl
  refine lv_iconst (v := 0) hx hb dX7_difference_0 (by decide) ?_
  refine lv_istore_n (lv' := [(2, .int 0), (0, .int p0), (1, .int p1)]) hx hb dX7_difference_1 rfl hl (by decide) rfl (fun ls hl => ?_)
  refine lv_iload_n hx hb dX7_difference_2 rfl (lv_at hl 1 rfl) ?_
  refine lv_istore_n (lv' := [(3, .int p0), (2, .int 0), (0, .int p0), (1, .int p1)]) hx hb dX7_difference_3 rfl hl (by decide) rfl (fun ls hl => ?_)
  refine lv_iload_n hx hb dX7_difference_4 rfl (lv_at hl 3 rfl) ?_
  refine lv_istore (lv' := [(4, .int p1), (3, .int p0), (2, .int 0), (0, .int p0), (1, .int p1)]) hx hb dX7_difference_5 hl (by decide) rfl (fun ls hl => ?_)
  refine lv_iconst (v := 0) hx hb dX7_difference_7 (by decide) ?_
  refine lv_istore (lv' := [(5, .int 0), (4, .int p1), (3, .int p0), (2, .int 0), (0, .int p0), (1, .int p1)]) hx hb dX7_difference_8 hl (by decide) rfl (fun ls hl => ?_)
  have loop_10 : ∀ (k_10 : Nat) (i_10 : Nat) (x2h10 : Int32) (x3h10 : Int32) (x4h10 : Int32) (x5h10 : Int32) (hb_10 : x5h10 = nI i_10) (hm_10 : i_10 ≤ 6 ∧ 6 < i_10 + k_10) (hI_10 : mX7_difference p0 p1 = mX7_difference_L10 p0 p1 k_10 x2h10 x3h10 x4h10 x5h10) (H : Heap) (locs : List Loc), va_P D vwCl [] H → va_D A [] → va_S A s.heap H locs → ∀ ls : Array Slot, lv_has ls 7 [(5, .int x5h10), (4, .int x4h10), (3, .int x3h10), (2, .int x2h10), (0, .int p0), (1, .int p1)] → W p l e rmX7_difference s m args below meth c H locs 0 0 Q (F0 m 10 ls []) := by
    intro k_10
    induction k_10 with
    | zero =>
      intro i_10 x2h10 x3h10 x4h10 x5h10 hb_10 hm_10 hI_10 H locs hP hD hS ls hl
      exact absurd hm_10 (by omega)
    | succ k_10 ih_10 =>
      intro i_10 x2h10 x3h10 x4h10 x5h10 hb_10 hm_10 hI_10 H locs hP hD hS ls hl
      have zz_10 := fc_nI (n := i_10) (by omega)
      rw [← hb_10] at zz_10
      refine lv_iload hx hb dX7_difference_10 (lv_at hl 0 rfl) ?_
      refine lv_bipush (v := 6) hx hb dX7_difference_12 (by decide) ?_
      refine lv_icmp_ge (tgt := 63) hx hb dX7_difference_14 (by decide) (fun c_1 => ?_) (fun c_1 => ?_)
      · refine lv_iload_n hx hb dX7_difference_63 rfl (lv_at hl 3 rfl) ?_
        exact hret _ _ (x2h10) () _ _ (by rw [hI_10, mX7_difference_L10_s, mX7_difference_S10]; (try dsimp only); rw [if_pos c_1]; (first | done | rfl)) (hP.sub [] rfl) (hD.sub [] (by decide) rfl) hS dX7_difference_64
      · refine lv_iload_n hx hb dX7_difference_17 rfl (lv_at hl 2 rfl) ?_
        refine lv_bipush (v := 10) hx hb dX7_difference_18 (by decide) ?_
        refine lv_irem hx hb dX7_difference_20 (by decide) ?_
        refine lv_iload hx hb dX7_difference_21 (lv_at hl 1 rfl) ?_
        refine lv_bipush (v := 10) hx hb dX7_difference_23 (by decide) ?_
        refine lv_irem hx hb dX7_difference_25 (by decide) ?_
        refine lv_isub hx hb dX7_difference_26 ?_
        refine lv_istore (lv' := [(6, .int ((x3h10 - x3h10 / 10 * 10) - (x4h10 - x4h10 / 10 * 10))), (5, .int x5h10), (4, .int x4h10), (3, .int x3h10), (2, .int x2h10), (0, .int p0), (1, .int p1)]) hx hb dX7_difference_27 hl (by decide) rfl (fun ls hl => ?_)
        refine lv_iload_n hx hb dX7_difference_29 rfl (lv_at hl 4 rfl) ?_
        refine lv_iload hx hb dX7_difference_30 (lv_at hl 0 rfl) ?_
        refine lv_if_ge (tgt := 41) hx hb dX7_difference_32 (by decide) (fun c_2 => ?_) (fun c_2 => ?_)
        · refine lv_iload hx hb dX7_difference_41 (lv_at hl 0 rfl) ?_
          refine lv_iadd hx hb dX7_difference_43 ?_
          refine lv_istore_n (lv' := [(2, .int (x2h10 + ((x3h10 - x3h10 / 10 * 10) - (x4h10 - x4h10 / 10 * 10)))), (6, .int ((x3h10 - x3h10 / 10 * 10) - (x4h10 - x4h10 / 10 * 10))), (5, .int x5h10), (4, .int x4h10), (3, .int x3h10), (0, .int p0), (1, .int p1)]) hx hb dX7_difference_44 rfl hl (by decide) rfl (fun ls hl => ?_)
          refine lv_iload_n hx hb dX7_difference_45 rfl (lv_at hl 4 rfl) ?_
          refine lv_bipush (v := 10) hx hb dX7_difference_46 (by decide) ?_
          refine lv_idiv hx hb dX7_difference_48 (by decide) ?_
          refine lv_istore_n (lv' := [(3, .int (x3h10 / 10)), (2, .int (x2h10 + ((x3h10 - x3h10 / 10 * 10) - (x4h10 - x4h10 / 10 * 10)))), (6, .int ((x3h10 - x3h10 / 10 * 10) - (x4h10 - x4h10 / 10 * 10))), (5, .int x5h10), (4, .int x4h10), (0, .int p0), (1, .int p1)]) hx hb dX7_difference_49 rfl hl (by decide) rfl (fun ls hl => ?_)
          refine lv_iload hx hb dX7_difference_50 (lv_at hl 4 rfl) ?_
          refine lv_bipush (v := 10) hx hb dX7_difference_52 (by decide) ?_
          refine lv_idiv hx hb dX7_difference_54 (by decide) ?_
          refine lv_istore (lv' := [(4, .int (x4h10 / 10)), (3, .int (x3h10 / 10)), (2, .int (x2h10 + ((x3h10 - x3h10 / 10 * 10) - (x4h10 - x4h10 / 10 * 10)))), (6, .int ((x3h10 - x3h10 / 10 * 10) - (x4h10 - x4h10 / 10 * 10))), (5, .int x5h10), (0, .int p0), (1, .int p1)]) hx hb dX7_difference_55 hl (by decide) rfl (fun ls hl => ?_)
          refine lv_iinc (v := (x5h10 + 1)) (lv' := [(5, .int (x5h10 + 1)), (4, .int (x4h10 / 10)), (3, .int (x3h10 / 10)), (2, .int (x2h10 + ((x3h10 - x3h10 / 10 * 10) - (x4h10 - x4h10 / 10 * 10)))), (6, .int ((x3h10 - x3h10 / 10 * 10) - (x4h10 - x4h10 / 10 * 10))), (0, .int p0), (1, .int p1)]) hx hb dX7_difference_57 hl (k := 4) rfl rfl (by decide) rfl (fun ls hl => ?_)
          refine lv_goto (tgt := 10) hx hb dX7_difference_60 (by decide) ?_
          exact ih_10 (i_10 + 1) (x2h10 + ((x3h10 - x3h10 / 10 * 10) - (x4h10 - x4h10 / 10 * 10))) (x3h10 / 10) (x4h10 / 10) (x5h10 + 1) (by rw [hb_10]; exact nI_1 _) (by have l_0 : (0 : Int32).toInt = 0 := (by decide); have l_10 : (10 : Int32).toInt = 10 := (by decide); have l_6 : (6 : Int32).toInt = 6 := (by decide); have qc_1 := c_1; (try simp only [fc_le, fc_lt, fc_eq] at qc_1); have qc_2 := c_2; (try simp only [fc_le, fc_lt, fc_eq] at qc_2); skip; omega) (by rw [hI_10, mX7_difference_L10_s, mX7_difference_S10]; (try dsimp only); rw [if_neg c_1]; rw [if_pos c_2]; (first | done | rfl)) _ _ (hP.sub [] rfl) (hD.sub [] (by decide) rfl) hS ls (lv_sub hl [0, 1, 2, 3, 5, 6] rfl)
        · refine lv_iload hx hb dX7_difference_35 (lv_at hl 0 rfl) ?_
          refine lv_ineg hx hb dX7_difference_37 ?_
          refine lv_goto (tgt := 43) hx hb dX7_difference_38 (by decide) ?_
          refine lv_iadd hx hb dX7_difference_43 ?_
          refine lv_istore_n (lv' := [(2, .int (x2h10 + (-((x3h10 - x3h10 / 10 * 10) - (x4h10 - x4h10 / 10 * 10))))), (6, .int ((x3h10 - x3h10 / 10 * 10) - (x4h10 - x4h10 / 10 * 10))), (5, .int x5h10), (4, .int x4h10), (3, .int x3h10), (0, .int p0), (1, .int p1)]) hx hb dX7_difference_44 rfl hl (by decide) rfl (fun ls hl => ?_)
          refine lv_iload_n hx hb dX7_difference_45 rfl (lv_at hl 4 rfl) ?_
          refine lv_bipush (v := 10) hx hb dX7_difference_46 (by decide) ?_
          refine lv_idiv hx hb dX7_difference_48 (by decide) ?_
          refine lv_istore_n (lv' := [(3, .int (x3h10 / 10)), (2, .int (x2h10 + (-((x3h10 - x3h10 / 10 * 10) - (x4h10 - x4h10 / 10 * 10))))), (6, .int ((x3h10 - x3h10 / 10 * 10) - (x4h10 - x4h10 / 10 * 10))), (5, .int x5h10), (4, .int x4h10), (0, .int p0), (1, .int p1)]) hx hb dX7_difference_49 rfl hl (by decide) rfl (fun ls hl => ?_)
          refine lv_iload hx hb dX7_difference_50 (lv_at hl 4 rfl) ?_
          refine lv_bipush (v := 10) hx hb dX7_difference_52 (by decide) ?_
          refine lv_idiv hx hb dX7_difference_54 (by decide) ?_
          refine lv_istore (lv' := [(4, .int (x4h10 / 10)), (3, .int (x3h10 / 10)), (2, .int (x2h10 + (-((x3h10 - x3h10 / 10 * 10) - (x4h10 - x4h10 / 10 * 10))))), (6, .int ((x3h10 - x3h10 / 10 * 10) - (x4h10 - x4h10 / 10 * 10))), (5, .int x5h10), (0, .int p0), (1, .int p1)]) hx hb dX7_difference_55 hl (by decide) rfl (fun ls hl => ?_)
          refine lv_iinc (v := (x5h10 + 1)) (lv' := [(5, .int (x5h10 + 1)), (4, .int (x4h10 / 10)), (3, .int (x3h10 / 10)), (2, .int (x2h10 + (-((x3h10 - x3h10 / 10 * 10) - (x4h10 - x4h10 / 10 * 10))))), (6, .int ((x3h10 - x3h10 / 10 * 10) - (x4h10 - x4h10 / 10 * 10))), (0, .int p0), (1, .int p1)]) hx hb dX7_difference_57 hl (k := 4) rfl rfl (by decide) rfl (fun ls hl => ?_)
          refine lv_goto (tgt := 10) hx hb dX7_difference_60 (by decide) ?_
          exact ih_10 (i_10 + 1) (x2h10 + (-((x3h10 - x3h10 / 10 * 10) - (x4h10 - x4h10 / 10 * 10)))) (x3h10 / 10) (x4h10 / 10) (x5h10 + 1) (by rw [hb_10]; exact nI_1 _) (by have l_0 : (0 : Int32).toInt = 0 := (by decide); have l_10 : (10 : Int32).toInt = 10 := (by decide); have l_6 : (6 : Int32).toInt = 6 := (by decide); have qc_1 := c_1; (try simp only [fc_le, fc_lt, fc_eq] at qc_1); have qc_2 := c_2; (try simp only [fc_le, fc_lt, fc_eq] at qc_2); skip; omega) (by rw [hI_10, mX7_difference_L10_s, mX7_difference_S10]; (try dsimp only); rw [if_neg c_1]; rw [if_neg c_2]; (first | done | rfl)) _ _ (hP.sub [] rfl) (hD.sub [] (by decide) rfl) hS ls (lv_sub hl [0, 1, 2, 3, 5, 6] rfl)
  exact loop_10 7 0 0 p0 p1 0 nI_0.symm (by omega) (by rw [mX7_difference]; (first | done | rfl)) _ _ (hP.sub [] rfl) (hD.sub [] (by decide) rfl) hS ls (lv_sub hl [0, 1, 2, 3, 4, 5] rfl)
theorem hd_X1_has : yX1_has.cls = RX1 ∧ yX1_has.cls ≠ "java/lang/invoke/MethodHandle" ∧ yX1_has.cls ≠ "java/lang/invoke/VarHandle" ∧ (parseMethodDescriptor yX1_has.desc).map (fun d => d.parameters.length) = some 1 := by decide +kernel
theorem hd_X1_hasn : yX1_has.cls ≠ "java/lang/invoke/MethodHandle" ∧ yX1_has.cls ≠ "java/lang/invoke/VarHandle" ∧ (parseMethodDescriptor yX1_has.desc).map (fun d => d.parameters.length) = some 1 := by decide +kernel
theorem hd_X1_get : yX1_get.cls = RX1 ∧ yX1_get.cls ≠ "java/lang/invoke/MethodHandle" ∧ yX1_get.cls ≠ "java/lang/invoke/VarHandle" ∧ (parseMethodDescriptor yX1_get.desc).map (fun d => d.parameters.length) = some 2 := by decide +kernel
theorem hd_X1_getn : yX1_get.cls ≠ "java/lang/invoke/MethodHandle" ∧ yX1_get.cls ≠ "java/lang/invoke/VarHandle" ∧ (parseMethodDescriptor yX1_get.desc).map (fun d => d.parameters.length) = some 2 := by decide +kernel
theorem hd_X7_difference : yX7_difference.cls = RX7 ∧ yX7_difference.cls ≠ "java/lang/invoke/MethodHandle" ∧ yX7_difference.cls ≠ "java/lang/invoke/VarHandle" ∧ (parseMethodDescriptor yX7_difference.desc).map (fun d => d.parameters.length) = some 2 := by decide +kernel
theorem hd_X7_differencen : yX7_difference.cls ≠ "java/lang/invoke/MethodHandle" ∧ yX7_difference.cls ≠ "java/lang/invoke/VarHandle" ∧ (parseMethodDescriptor yX7_difference.desc).map (fun d => d.parameters.length) = some 2 := by decide +kernel
noncomputable def mX1_measureChange (N : Nat) (fc : Nat → Int32) (fl : Int32) (p0 : Int32) : Nat → Int32 :=
  if p0 = 0 then
    let fc_8 := mX1_put N fc fl p0 4 (-1)
    fc_8
  else
    let r_2 := mX1_has fl p0
    if r_2 = 0 then
      fc
    else
      let r_4 := mX1_get N fc fl (p0 - 1) 1
      let r_5 := mX1_get N fc fl p0 1
      let r_6 := mX7_difference r_4 r_5
      let fc_7 := mX1_put N fc fl p0 4 r_6
      fc_7
abbrev rmX1_measureChange : Room := { frames := 1, cells := 0, slots := 0, locals := 26 }
set_option maxHeartbeats 4000000 in
set_option maxRecDepth 100000 in
theorem c_X1_measureChange (l : Launch) (D : va_G) (tc : Nat → ClassId) (h0 : Nat) (hc : Nat) (N : Nat) (fc : Nat → Int32) (fl : Int32) (p0 : Int32) (sz : Nat) (hN : N < 1000) : Met l yX1_measureChange wsX1_measureChange rmX1_measureChange (va_Pc [.ref h0, .int p0] (fcB D tc [(h0, .inr (1, [.ref hc, .int fl])), (hc, .inl (tc 0, N, .inl fc))] sz)) (va_Qv (fun (u : Nat → Int32) => mX1_measureChange N fc fl p0 = u) (fun u t => fcO D (va_A [(h0, .inr (1, [.ref hc, .int fl])), (hc, .inl (tc 0, N, .inl fc))] sz) ((fun (u : Nat → Int32) => [(h0, .inr (1, [.ref hc, .int fl])), (hc, .inl (tc 0, N, .inl u))]) u) t) (va_A [(h0, .inr (1, [.ref hc, .int fl])), (hc, .inl (tc 0, N, .inl fc))] sz)) 0 0 (va_A [(h0, .inr (1, [.ref hc, .int fl])), (hc, .inl (tc 0, N, .inl fc))] sz) := by
  refine fc_ofWv (own := RX1) (cc := cX1_measureChange) (maxL := 2) (W1 := (fun (u : Nat → Int32) => [(h0, .inr (1, [.ref hc, .int fl])), (hc, .inl (tc 0, N, .inl u))])) rfl (by decide) rfl (Nat.le_of_ble_eq_true rfl) ?_
  intro p e s m args below meth c A Q hx hb hml hown hts hK hE hP hD hS hA hin hret ls hl
  have hl : lv_has ls 2 [(0, .ref h0), (1, .int p0)] := hl
  refine lv_iload_n hx hb dX1_measureChange_0 rfl (lv_at hl 1 rfl) ?_
  refine lv_if_ne (tgt := 14) hx hb dX1_measureChange_1 (by decide) (fun c_1 => ?_) (fun c_1 => ?_)
  · refine lv_aload_n hx hb dX1_measureChange_14 rfl (lv_at hl 0 rfl) ?_
    refine lv_iload_n hx hb dX1_measureChange_15 rfl (lv_at hl 1 rfl) ?_
    refine fc_goi (isC := [0]) (isR := [1]) (wc := [(h0, .inr (1, [.ref hc, .int fl]))]) (wr := [(hc, .inl (tc 0, N, .inl fc))]) hP hD hS hA rfl rfl (by decide) (by decide) (fc_runV (isC := [0]) (As := [.int p0]) (rest := []) hx hb hml hown hts hK hE hP hD hS hA rfl (by decide) (c_X1_has l D tc h0 hc fl p0 _ ) (cwV 1 hts gX1_measureChange_X1_has rfl rfl rfl hd_X1_has ⟨Nat.le_of_ble_eq_true rfl, Nat.le_of_ble_eq_true rfl⟩) (ci := 1) rfl rfl rfl rfl hl.1 rfl (Nat.le_of_ble_eq_true rfl) dX1_measureChange_16 ⟨Nat.le_of_ble_eq_true rfl, Nat.le_of_ble_eq_true rfl⟩) (fun r_2 u_2 H locs hw_2 hP hD hS => ?_)
    try dsimp only at hw_2
    have hP : va_P D vwCl [(hc, .inl (tc 0, N, .inl fc)), (h0, .inr (1, [.ref hc, .int fl]))] H := hP
    have hD : va_D A [(hc, .inl (tc 0, N, .inl fc)), (h0, .inr (1, [.ref hc, .int fl]))] := hD
    refine lv_if_eq (tgt := 45) hx hb dX1_measureChange_19 (by decide) (fun c_3 => ?_) (fun c_3 => ?_)
    · exact hret _ _ fc _ _ (by rw [mX1_measureChange]; (try dsimp only); rw [if_neg c_1]; rw [hw_2]; (try dsimp only); rw [if_pos c_3]; (first | done | rfl)) (hP.sub [1, 0] rfl) (hD.sub [1, 0] (by decide) rfl) hS dX1_measureChange_45
    · refine lv_aload_n hx hb dX1_measureChange_22 rfl (lv_at hl 0 rfl) ?_
      refine lv_iload_n hx hb dX1_measureChange_23 rfl (lv_at hl 1 rfl) ?_
      refine lv_iconst (v := 4) hx hb dX1_measureChange_24 (by decide) ?_
      refine lv_aload_n hx hb dX1_measureChange_25 rfl (lv_at hl 0 rfl) ?_
      refine lv_iload_n hx hb dX1_measureChange_26 rfl (lv_at hl 1 rfl) ?_
      refine lv_iconst (v := 1) hx hb dX1_measureChange_27 (by decide) ?_
      refine lv_isub hx hb dX1_measureChange_28 ?_
      refine lv_iconst (v := 1) hx hb dX1_measureChange_29 (by decide) ?_
      refine fc_goi (isC := [1, 0]) (isR := []) (wc := [(h0, .inr (1, [.ref hc, .int fl])), (hc, .inl (tc 0, N, .inl fc))]) (wr := []) hP hD hS hA rfl rfl (by decide) (by decide) (fc_runV (isC := [1, 0]) (As := [.int (p0 - 1), .int 1]) (rest := [.int 4, .int p0, .ref h0]) hx hb hml hown hts hK hE hP hD hS hA rfl (by decide) (c_X1_get l D tc h0 hc N fc fl (p0 - 1) 1 _ (by have l_0 : (0 : Int32).toInt = 0 := (by decide); have l_1 : (1 : Int32).toInt = 1 := (by decide); have qc_1 := c_1; (try simp only [fc_le, fc_lt, fc_eq] at qc_1); have qc_3 := c_3; (try simp only [fc_le, fc_lt, fc_eq] at qc_3); (try simp only [fc_le, fc_lt, fc_eq]); omega)) (cwV 2 hts gX1_measureChange_X1_get rfl rfl rfl hd_X1_get ⟨Nat.le_of_ble_eq_true rfl, Nat.le_of_ble_eq_true rfl⟩) (ci := 1) rfl rfl rfl rfl hl.1 rfl (Nat.le_of_ble_eq_true rfl) dX1_measureChange_30 ⟨Nat.le_of_ble_eq_true rfl, Nat.le_of_ble_eq_true rfl⟩) (fun r_4 u_4 H locs hw_4 hP hD hS => ?_)
      try dsimp only at hw_4
      have hP : va_P D vwCl [(h0, .inr (1, [.ref hc, .int fl])), (hc, .inl (tc 0, N, .inl fc))] H := hP
      have hD : va_D A [(h0, .inr (1, [.ref hc, .int fl])), (hc, .inl (tc 0, N, .inl fc))] := hD
      refine lv_aload_n hx hb dX1_measureChange_33 rfl (lv_at hl 0 rfl) ?_
      refine lv_iload_n hx hb dX1_measureChange_34 rfl (lv_at hl 1 rfl) ?_
      refine lv_iconst (v := 1) hx hb dX1_measureChange_35 (by decide) ?_
      refine fc_goi (isC := [0, 1]) (isR := []) (wc := [(h0, .inr (1, [.ref hc, .int fl])), (hc, .inl (tc 0, N, .inl fc))]) (wr := []) hP hD hS hA rfl rfl (by decide) (by decide) (fc_runV (isC := [0, 1]) (As := [.int p0, .int 1]) (rest := [.int r_4, .int 4, .int p0, .ref h0]) hx hb hml hown hts hK hE hP hD hS hA rfl (by decide) (c_X1_get l D tc h0 hc N fc fl p0 1 _ (by have l_0 : (0 : Int32).toInt = 0 := (by decide); have l_1 : (1 : Int32).toInt = 1 := (by decide); have qc_1 := c_1; (try simp only [fc_le, fc_lt, fc_eq] at qc_1); have qc_3 := c_3; (try simp only [fc_le, fc_lt, fc_eq] at qc_3); (try simp only [fc_le, fc_lt, fc_eq]); omega)) (cwV 2 hts gX1_measureChange_X1_get rfl rfl rfl hd_X1_get ⟨Nat.le_of_ble_eq_true rfl, Nat.le_of_ble_eq_true rfl⟩) (ci := 1) rfl rfl rfl rfl hl.1 rfl (Nat.le_of_ble_eq_true rfl) dX1_measureChange_36 ⟨Nat.le_of_ble_eq_true rfl, Nat.le_of_ble_eq_true rfl⟩) (fun r_5 u_5 H locs hw_5 hP hD hS => ?_)
      try dsimp only at hw_5
      have hP : va_P D vwCl [(h0, .inr (1, [.ref hc, .int fl])), (hc, .inl (tc 0, N, .inl fc))] H := hP
      have hD : va_D A [(h0, .inr (1, [.ref hc, .int fl])), (hc, .inl (tc 0, N, .inl fc))] := hD
      refine fc_goi (isC := []) (isR := [0, 1]) (wc := []) (wr := [(h0, .inr (1, [.ref hc, .int fl])), (hc, .inl (tc 0, N, .inl fc))]) hP hD hS hA rfl rfl (by decide) (by decide) (fc_runSN (isC := []) (As := [.int r_4, .int r_5]) (rest := [.int 4, .int p0, .ref h0]) (host := "FrameCard") hx hb hml hown hts hK hE hP hD hS hA rfl (by decide) (c_X7_difference l D tc r_4 r_5 _ ) ⟨va_cnB 2 hts gX1_measureChange_X7_difference_n37 rfl rfl rfl (hE.nz 34 (w := .methodLinkNest "FrameCard$Frames" 37 yX7_difference "FrameCard") rfl) (hts (.initialized RX7) (by decide +kernel)) hd_X7_differencen ⟨Nat.le_of_ble_eq_true rfl, Nat.le_of_ble_eq_true rfl⟩, hts (.static yX7_difference) (by decide +kernel), trivial⟩ rfl hl.1 rfl (Nat.le_of_ble_eq_true rfl) dX1_measureChange_39 ⟨Nat.le_of_ble_eq_true rfl, Nat.le_of_ble_eq_true rfl⟩) (fun r_6 u_6 H locs hw_6 hP hD hS => ?_)
      try dsimp only at hw_6
      have hP : va_P D vwCl [(h0, .inr (1, [.ref hc, .int fl])), (hc, .inl (tc 0, N, .inl fc))] H := hP
      have hD : va_D A [(h0, .inr (1, [.ref hc, .int fl])), (hc, .inl (tc 0, N, .inl fc))] := hD
      refine fc_gov (isC := [0, 1]) (isR := []) (wc := [(h0, .inr (1, [.ref hc, .int fl])), (hc, .inl (tc 0, N, .inl fc))]) (wr := []) hP hD hS hA rfl rfl (by decide) (by decide) (fc_runV (isC := [0, 1]) (As := [.int p0, .int 4, .int r_6]) (rest := []) hx hb hml hown hts hK hE hP hD hS hA rfl (by decide) (c_X1_put l D tc h0 hc N fc fl p0 4 r_6 _ (by have l_0 : (0 : Int32).toInt = 0 := (by decide); have l_4 : (4 : Int32).toInt = 4 := (by decide); have qc_1 := c_1; (try simp only [fc_le, fc_lt, fc_eq] at qc_1); have qc_3 := c_3; (try simp only [fc_le, fc_lt, fc_eq] at qc_3); (try simp only [fc_le, fc_lt, fc_eq]); omega)) (cwV 3 hts gX1_measureChange_X1_put rfl rfl rfl hd_X1_put ⟨Nat.le_of_ble_eq_true rfl, Nat.le_of_ble_eq_true rfl⟩) (ci := 1) rfl rfl rfl rfl hl.1 rfl (Nat.le_of_ble_eq_true rfl) dX1_measureChange_42 ⟨Nat.le_of_ble_eq_true rfl, Nat.le_of_ble_eq_true rfl⟩) (fun u_7 H locs hw_7 hP hD hS => ?_)
      obtain ⟨fc_7, rfl⟩ : ∃ z, z = u_7 := ⟨_, rfl⟩
      try dsimp only at hw_7
      have hP : va_P D vwCl [(h0, .inr (1, [.ref hc, .int fl])), (hc, .inl (tc 0, N, .inl fc_7))] H := hP
      have hD : va_D A [(h0, .inr (1, [.ref hc, .int fl])), (hc, .inl (tc 0, N, .inl fc_7))] := hD
      exact hret _ _ fc_7 _ _ (by rw [mX1_measureChange]; (try dsimp only); rw [if_neg c_1]; rw [hw_2]; (try dsimp only); rw [if_neg c_3]; rw [hw_4]; (try dsimp only); rw [hw_5]; (try dsimp only); rw [hw_6]; (try dsimp only); rw [hw_7]; (try dsimp only); (first | done | rfl)) (hP.sub [0, 1] rfl) (hD.sub [0, 1] (by decide) rfl) hS dX1_measureChange_45
  · refine lv_aload_n hx hb dX1_measureChange_4 rfl (lv_at hl 0 rfl) ?_
    refine lv_iload_n hx hb dX1_measureChange_5 rfl (lv_at hl 1 rfl) ?_
    refine lv_iconst (v := 4) hx hb dX1_measureChange_6 (by decide) ?_
    refine lv_iconst (v := (-1)) hx hb dX1_measureChange_7 (by decide) ?_
    refine fc_gov (isC := [0, 1]) (isR := []) (wc := [(h0, .inr (1, [.ref hc, .int fl])), (hc, .inl (tc 0, N, .inl fc))]) (wr := []) hP hD hS hA rfl rfl (by decide) (by decide) (fc_runV (isC := [0, 1]) (As := [.int p0, .int 4, .int (-1)]) (rest := []) hx hb hml hown hts hK hE hP hD hS hA rfl (by decide) (c_X1_put l D tc h0 hc N fc fl p0 4 (-1) _ (by have l_mm1m : ((-1) : Int32).toInt = (-1) := (by decide); have l_0 : (0 : Int32).toInt = 0 := (by decide); have l_4 : (4 : Int32).toInt = 4 := (by decide); have qc_1 := c_1; (try simp only [fc_le, fc_lt, fc_eq] at qc_1); (try simp only [fc_le, fc_lt, fc_eq]); omega)) (cwV 3 hts gX1_measureChange_X1_put rfl rfl rfl hd_X1_put ⟨Nat.le_of_ble_eq_true rfl, Nat.le_of_ble_eq_true rfl⟩) (ci := 1) rfl rfl rfl rfl hl.1 rfl (Nat.le_of_ble_eq_true rfl) dX1_measureChange_8 ⟨Nat.le_of_ble_eq_true rfl, Nat.le_of_ble_eq_true rfl⟩) (fun u_8 H locs hw_8 hP hD hS => ?_)
    obtain ⟨fc_8, rfl⟩ : ∃ z, z = u_8 := ⟨_, rfl⟩
    try dsimp only at hw_8
    have hP : va_P D vwCl [(h0, .inr (1, [.ref hc, .int fl])), (hc, .inl (tc 0, N, .inl fc_8))] H := hP
    have hD : va_D A [(h0, .inr (1, [.ref hc, .int fl])), (hc, .inl (tc 0, N, .inl fc_8))] := hD
    refine lv_goto (tgt := 45) hx hb dX1_measureChange_11 (by decide) ?_
    exact hret _ _ fc_8 _ _ (by rw [mX1_measureChange]; (try dsimp only); rw [if_pos c_1]; rw [hw_8]; (try dsimp only); (first | done | rfl)) (hP.sub [0, 1] rfl) (hD.sub [0, 1] (by decide) rfl) hS dX1_measureChange_45
noncomputable def mX1_copyFrom (N : Nat) (fc : Nat → Int32) (fl : Int32) (gf : Nat → Int32) (gl : Int32) : Int32 × (Nat → Int32) :=
  if (gl * 7) < 0 then
    (fl, fc)
  else
    if (nI N) < (gl * 7) then
      (fl, fc)
    else
      (gl, (va_cpy gf fc (0 : Int32).toNatClampNeg (0 : Int32).toNatClampNeg ((gl * 7) : Int32).toNatClampNeg))
set_option maxRecDepth 20000 in
theorem iX1_copyFrom_X1 : ∀ w ∈ wsX10, w ∈ wsX1_copyFrom := by decide +kernel
abbrev rmX1_copyFrom : Room := { frames := 1, cells := 0, slots := 0, locals := 60 }
set_option maxHeartbeats 4000000 in
set_option maxRecDepth 100000 in
theorem c_X1_copyFrom (l : Launch) (D : va_G) (tc : Nat → ClassId) (h0 : Nat) (hc : Nat) (N : Nat) (fc : Nat → Int32) (fl : Int32) (g0 : Nat) (gc : Nat) (gf : Nat → Int32) (gl : Int32) (sz : Nat) (hN : N < 1000) : Met l yX1_copyFrom wsX1_copyFrom rmX1_copyFrom (va_Pc [.ref h0, .ref g0] (fcB D tc [(h0, .inr (1, [.ref hc, .int fl])), (hc, .inl (tc 0, N, .inl fc)), (g0, .inr (1, [.ref gc, .int gl])), (gc, .inl (tc 0, N, .inl gf))] sz)) (va_Qv (fun (u : Int32 × (Nat → Int32)) => mX1_copyFrom N fc fl gf gl = u) (fun u t => fcO D (va_A [(h0, .inr (1, [.ref hc, .int fl])), (hc, .inl (tc 0, N, .inl fc)), (g0, .inr (1, [.ref gc, .int gl])), (gc, .inl (tc 0, N, .inl gf))] sz) ((fun (u : Int32 × (Nat → Int32)) => [(h0, .inr (1, [.ref hc, .int (u.1)])), (hc, .inl (tc 0, N, .inl (u.2))), (g0, .inr (1, [.ref gc, .int gl])), (gc, .inl (tc 0, N, .inl gf))]) u) t) (va_A [(h0, .inr (1, [.ref hc, .int fl])), (hc, .inl (tc 0, N, .inl fc)), (g0, .inr (1, [.ref gc, .int gl])), (gc, .inl (tc 0, N, .inl gf))] sz)) 0 0 (va_A [(h0, .inr (1, [.ref hc, .int fl])), (hc, .inl (tc 0, N, .inl fc)), (g0, .inr (1, [.ref gc, .int gl])), (gc, .inl (tc 0, N, .inl gf))] sz) := by
  refine fc_ofWv (own := RX1) (cc := cX1_copyFrom) (maxL := 3) (W1 := (fun (u : Int32 × (Nat → Int32)) => [(h0, .inr (1, [.ref hc, .int (u.1)])), (hc, .inl (tc 0, N, .inl (u.2))), (g0, .inr (1, [.ref gc, .int gl])), (gc, .inl (tc 0, N, .inl gf))])) rfl (by decide) rfl (Nat.le_of_ble_eq_true rfl) ?_
  intro p e s m args below meth c A Q hx hb hml hown hts hK hE hP hD hS hA hin hret ls hl
  have hl : lv_has ls 3 [(0, .ref h0), (1, .ref g0)] := hl
  refine lv_aload_n hx hb dX1_copyFrom_0 rfl (lv_at hl 1 rfl) ?_
  refine va_get (D := D) (ci := 1) (v := .int gl) (C := RX1) (T := TX1) (N := 2) hx hb hts iX1_copyFrom_X1 hown hK hP 2 rfl rfl 1 (by decide) (hts (.fieldLink RX1 15 "FrameCard$Frames" "length" "I") (by decide +kernel)) (fun _ h9 => h9) rfl dX1_copyFrom_1 ?_
  refine lv_bipush (v := 7) hx hb dX1_copyFrom_4 (by decide) ?_
  refine lv_imul hx hb dX1_copyFrom_6 ?_
  refine lv_istore_n (lv' := [(2, .int (gl * 7)), (0, .ref h0), (1, .ref g0)]) hx hb dX1_copyFrom_7 rfl hl (by decide) rfl (fun ls hl => ?_)
  refine lv_iload_n hx hb dX1_copyFrom_8 rfl (lv_at hl 0 rfl) ?_
  refine lv_if_lt (tgt := 52) hx hb dX1_copyFrom_9 (by decide) (fun c_1 => ?_) (fun c_1 => ?_)
  · exact hret _ _ (fl, fc) _ _ (by rw [mX1_copyFrom]; (try dsimp only); rw [if_pos c_1]; (first | done | rfl)) (hP.sub [0, 1, 2, 3] rfl) (hD.sub [0, 1, 2, 3] (by decide) rfl) hS dX1_copyFrom_52
  · refine lv_iload_n hx hb dX1_copyFrom_12 rfl (lv_at hl 0 rfl) ?_
    refine lv_aload_n hx hb dX1_copyFrom_13 rfl (lv_at hl 1 rfl) ?_
    refine va_get (D := D) (ci := 1) (v := .ref hc) (C := RX1) (T := TX1) (N := 2) hx hb hts iX1_copyFrom_X1 hown hK hP 0 rfl rfl 0 (by decide) (hts (.fieldLink RX1 9 "FrameCard$Frames" "cells" "[I") (by decide +kernel)) (fun _ h9 => h9) rfl dX1_copyFrom_14 ?_
    refine va_alen (D := D) hx hb hK hP 1 0 rfl (ty := .int) rfl (v := (nI N)) rfl dX1_copyFrom_17 ?_
    refine lv_icmp_gt (tgt := 52) hx hb dX1_copyFrom_18 (by decide) (fun c_2 => ?_) (fun c_2 => ?_)
    · exact hret _ _ (fl, fc) _ _ (by rw [mX1_copyFrom]; (try dsimp only); rw [if_neg c_1]; rw [if_pos c_2]; (first | done | rfl)) (hP.sub [0, 1, 2, 3] rfl) (hD.sub [0, 1, 2, 3] (by decide) rfl) hS dX1_copyFrom_52
    · refine lv_iload_n hx hb dX1_copyFrom_21 rfl (lv_at hl 0 rfl) ?_
      refine lv_aload_n hx hb dX1_copyFrom_22 rfl (lv_at hl 2 rfl) ?_
      refine va_get (D := D) (ci := 1) (v := .ref gc) (C := RX1) (T := TX1) (N := 2) hx hb hts iX1_copyFrom_X1 hown hK hP 2 rfl rfl 0 (by decide) (hts (.fieldLink RX1 9 "FrameCard$Frames" "cells" "[I") (by decide +kernel)) (fun _ h9 => h9) rfl dX1_copyFrom_23 ?_
      refine va_alen (D := D) hx hb hK hP 3 0 rfl (ty := .int) rfl (v := (nI N)) rfl dX1_copyFrom_26 ?_
      refine lv_icmp_gt (tgt := 52) hx hb dX1_copyFrom_27 (by decide) (fun c_3 => ?_) (fun c_3 => ?_)
      · exact absurd c_3 c_2
      · refine lv_aload_n hx hb dX1_copyFrom_30 rfl (lv_at hl 2 rfl) ?_
        refine va_get (D := D) (ci := 1) (v := .ref gc) (C := RX1) (T := TX1) (N := 2) hx hb hts iX1_copyFrom_X1 hown hK hP 2 rfl rfl 0 (by decide) (hts (.fieldLink RX1 9 "FrameCard$Frames" "cells" "[I") (by decide +kernel)) (fun _ h9 => h9) rfl dX1_copyFrom_31 ?_
        refine lv_iconst (v := 0) hx hb dX1_copyFrom_34 (by decide) ?_
        refine lv_aload_n hx hb dX1_copyFrom_35 rfl (lv_at hl 1 rfl) ?_
        refine va_get (D := D) (ci := 1) (v := .ref hc) (C := RX1) (T := TX1) (N := 2) hx hb hts iX1_copyFrom_X1 hown hK hP 0 rfl rfl 0 (by decide) (hts (.fieldLink RX1 9 "FrameCard$Frames" "cells" "[I") (by decide +kernel)) (fun _ h9 => h9) rfl dX1_copyFrom_36 ?_
        refine lv_iconst (v := 0) hx hb dX1_copyFrom_39 (by decide) ?_
        refine lv_iload_n hx hb dX1_copyFrom_40 rfl (lv_at hl 0 rfl) ?_
        refine va_copyi (D := D) hx hb (hml.trans hl.1.symm) hown (hts (.methodLink RX1 27 arraycopyName) (by decide +kernel)) (hts (.native arraycopyName) (by decide +kernel)) (hts (.static arraycopyName) (by decide +kernel)) (hts (.initialized "java/lang/System") (by decide +kernel)) hK hP hD hS 3 1 0 0 rfl rfl rfl rfl rfl (by decide) (by decide) (by have l_0 : (0 : Int32).toInt = 0 := (by decide); have l_7 : (7 : Int32).toInt = 7 := (by decide); have z_N := fc_nI (n := N) (by omega); have qc_1 := c_1; (try simp only [fc_le, fc_lt, fc_eq] at qc_1); have qc_2 := c_2; (try simp only [fc_le, fc_lt, fc_eq] at qc_2); intro h9; simp only [fc_lt] at h9; omega) (by have l_0 : (0 : Int32).toInt = 0 := (by decide); have l_7 : (7 : Int32).toInt = 7 := (by decide); have z_N := fc_nI (n := N) (by omega); have qc_1 := c_1; (try simp only [fc_le, fc_lt, fc_eq] at qc_1); have qc_2 := c_2; (try simp only [fc_le, fc_lt, fc_eq] at qc_2); simp only [fc_cl]; omega) (by have l_0 : (0 : Int32).toInt = 0 := (by decide); have l_7 : (7 : Int32).toInt = 7 := (by decide); have z_N := fc_nI (n := N) (by omega); have qc_1 := c_1; (try simp only [fc_le, fc_lt, fc_eq] at qc_1); have qc_2 := c_2; (try simp only [fc_le, fc_lt, fc_eq] at qc_2); simp only [fc_cl]; omega) (fun _ _ => rfl) (Nat.le_of_ble_eq_true rfl) (by decide +kernel) dX1_copyFrom_41 (fun H locs hP hD hS => ?_)
        have hP : va_P D vwCl [(h0, .inr (1, [.ref hc, .int fl])), (hc, .inl (tc 0, N, .inl (va_cpy gf fc (0 : Int32).toNatClampNeg (0 : Int32).toNatClampNeg ((gl * 7) : Int32).toNatClampNeg))), (g0, .inr (1, [.ref gc, .int gl])), (gc, .inl (tc 0, N, .inl gf))] H := hP
        have hD : va_D A [(h0, .inr (1, [.ref hc, .int fl])), (hc, .inl (tc 0, N, .inl (va_cpy gf fc (0 : Int32).toNatClampNeg (0 : Int32).toNatClampNeg ((gl * 7) : Int32).toNatClampNeg))), (g0, .inr (1, [.ref gc, .int gl])), (gc, .inl (tc 0, N, .inl gf))] := hD
        refine lv_aload_n hx hb dX1_copyFrom_44 rfl (lv_at hl 1 rfl) ?_
        refine lv_aload_n hx hb dX1_copyFrom_45 rfl (lv_at hl 2 rfl) ?_
        refine va_get (D := D) (ci := 1) (v := .int gl) (C := RX1) (T := TX1) (N := 2) hx hb hts iX1_copyFrom_X1 hown hK hP 2 rfl rfl 1 (by decide) (hts (.fieldLink RX1 15 "FrameCard$Frames" "length" "I") (by decide +kernel)) (fun _ h9 => h9) rfl dX1_copyFrom_46 ?_
        refine va_put (D := D) (ci := 1) (v := .int gl) (ty := .int) (C := RX1) (T := TX1) (N := 2) hx hb hts iX1_copyFrom_X1 tyX1 tyX1_ok nmX1 hown hK hP hD hS 0 rfl rfl 1 (by decide) (hts (.fieldLink RX1 15 "FrameCard$Frames" "length" "I") (by decide +kernel)) (fun _ h9 => h9) rfl (by decide +kernel) rfl rfl (Nat.le_of_ble_eq_true rfl) dX1_copyFrom_49 (fun H locs hP hD hS => ?_)
        have hP : va_P D vwCl [(h0, .inr (1, [.ref hc, .int gl])), (hc, .inl (tc 0, N, .inl (va_cpy gf fc (0 : Int32).toNatClampNeg (0 : Int32).toNatClampNeg ((gl * 7) : Int32).toNatClampNeg))), (g0, .inr (1, [.ref gc, .int gl])), (gc, .inl (tc 0, N, .inl gf))] H := hP
        have hD : va_D A [(h0, .inr (1, [.ref hc, .int gl])), (hc, .inl (tc 0, N, .inl (va_cpy gf fc (0 : Int32).toNatClampNeg (0 : Int32).toNatClampNeg ((gl * 7) : Int32).toNatClampNeg))), (g0, .inr (1, [.ref gc, .int gl])), (gc, .inl (tc 0, N, .inl gf))] := hD
        exact hret _ _ (gl, (va_cpy gf fc (0 : Int32).toNatClampNeg (0 : Int32).toNatClampNeg ((gl * 7) : Int32).toNatClampNeg)) _ _ (by rw [mX1_copyFrom]; (try dsimp only); rw [if_neg c_1]; rw [if_neg c_2]; (first | done | rfl)) (hP.sub [0, 1, 2, 3] rfl) (hD.sub [0, 1, 2, 3] (by decide) rfl) hS dX1_copyFrom_52
noncomputable def mX1_remove (N : Nat) (fc : Nat → Int32) (fl : Int32) (p0 : Int32) : Int32 × (Nat → Int32) :=
  let r_1 := mX1_has fl p0
  if r_1 = 0 then
    (fl, fc)
  else
    if (nI N) < (fl * 7) then
      (fl, fc)
    else
      ((fl - 1), (va_cpy fc fc (((p0 + 1) * 7) : Int32).toNatClampNeg ((((p0 + 1) * 7) - 7) : Int32).toNatClampNeg (((fl * 7) - ((p0 + 1) * 7)) : Int32).toNatClampNeg))
set_option maxRecDepth 20000 in
theorem iX1_remove_X1 : ∀ w ∈ wsX10, w ∈ wsX1_remove := by decide +kernel
abbrev rmX1_remove : Room := { frames := 1, cells := 0, slots := 0, locals := 60 }
set_option maxHeartbeats 4000000 in
set_option maxRecDepth 100000 in
theorem c_X1_remove (l : Launch) (D : va_G) (tc : Nat → ClassId) (h0 : Nat) (hc : Nat) (N : Nat) (fc : Nat → Int32) (fl : Int32) (p0 : Int32) (sz : Nat) (hN : N < 1000) (hfl : 0 ≤ fl.toInt ∧ fl.toInt ≤ 100000000) : Met l yX1_remove wsX1_remove rmX1_remove (va_Pc [.ref h0, .int p0] (fcB D tc [(h0, .inr (1, [.ref hc, .int fl])), (hc, .inl (tc 0, N, .inl fc))] sz)) (va_Qv (fun (u : Int32 × (Nat → Int32)) => mX1_remove N fc fl p0 = u) (fun u t => fcO D (va_A [(h0, .inr (1, [.ref hc, .int fl])), (hc, .inl (tc 0, N, .inl fc))] sz) ((fun (u : Int32 × (Nat → Int32)) => [(h0, .inr (1, [.ref hc, .int (u.1)])), (hc, .inl (tc 0, N, .inl (u.2)))]) u) t) (va_A [(h0, .inr (1, [.ref hc, .int fl])), (hc, .inl (tc 0, N, .inl fc))] sz)) 0 0 (va_A [(h0, .inr (1, [.ref hc, .int fl])), (hc, .inl (tc 0, N, .inl fc))] sz) := by
  refine fc_ofWv (own := RX1) (cc := cX1_remove) (maxL := 4) (W1 := (fun (u : Int32 × (Nat → Int32)) => [(h0, .inr (1, [.ref hc, .int (u.1)])), (hc, .inl (tc 0, N, .inl (u.2)))])) rfl (by decide) rfl (Nat.le_of_ble_eq_true rfl) ?_
  intro p e s m args below meth c A Q hx hb hml hown hts hK hE hP hD hS hA hin hret ls hl
  have hl : lv_has ls 4 [(0, .ref h0), (1, .int p0)] := hl
  refine lv_iload_n hx hb dX1_remove_0 rfl (lv_at hl 1 rfl) ?_
  refine lv_iconst (v := 1) hx hb dX1_remove_1 (by decide) ?_
  refine lv_iadd hx hb dX1_remove_2 ?_
  refine lv_bipush (v := 7) hx hb dX1_remove_3 (by decide) ?_
  refine lv_imul hx hb dX1_remove_5 ?_
  refine lv_istore_n (lv' := [(2, .int ((p0 + 1) * 7)), (0, .ref h0), (1, .int p0)]) hx hb dX1_remove_6 rfl hl (by decide) rfl (fun ls hl => ?_)
  refine lv_aload_n hx hb dX1_remove_7 rfl (lv_at hl 1 rfl) ?_
  refine va_get (D := D) (ci := 1) (v := .int fl) (C := RX1) (T := TX1) (N := 2) hx hb hts iX1_remove_X1 hown hK hP 0 rfl rfl 1 (by decide) (hts (.fieldLink RX1 15 "FrameCard$Frames" "length" "I") (by decide +kernel)) (fun _ h9 => h9) rfl dX1_remove_8 ?_
  refine lv_bipush (v := 7) hx hb dX1_remove_11 (by decide) ?_
  refine lv_imul hx hb dX1_remove_13 ?_
  refine lv_istore_n (lv' := [(3, .int (fl * 7)), (2, .int ((p0 + 1) * 7)), (0, .ref h0), (1, .int p0)]) hx hb dX1_remove_14 rfl hl (by decide) rfl (fun ls hl => ?_)
  refine lv_aload_n hx hb dX1_remove_15 rfl (lv_at hl 2 rfl) ?_
  refine lv_iload_n hx hb dX1_remove_16 rfl (lv_at hl 3 rfl) ?_
  refine fc_goi (isC := [0]) (isR := [1]) (wc := [(h0, .inr (1, [.ref hc, .int fl]))]) (wr := [(hc, .inl (tc 0, N, .inl fc))]) hP hD hS hA rfl rfl (by decide) (by decide) (fc_runV (isC := [0]) (As := [.int p0]) (rest := []) hx hb hml hown hts hK hE hP hD hS hA rfl (by decide) (c_X1_has l D tc h0 hc fl p0 _ ) (cwV 1 hts gX1_remove_X1_has rfl rfl rfl hd_X1_has ⟨Nat.le_of_ble_eq_true rfl, Nat.le_of_ble_eq_true rfl⟩) (ci := 1) rfl rfl rfl rfl hl.1 rfl (Nat.le_of_ble_eq_true rfl) dX1_remove_17 ⟨Nat.le_of_ble_eq_true rfl, Nat.le_of_ble_eq_true rfl⟩) (fun r_1 u_1 H locs hw_1 hP hD hS => ?_)
  try dsimp only at hw_1
  have hP : va_P D vwCl [(hc, .inl (tc 0, N, .inl fc)), (h0, .inr (1, [.ref hc, .int fl]))] H := hP
  have hD : va_D A [(hc, .inl (tc 0, N, .inl fc)), (h0, .inr (1, [.ref hc, .int fl]))] := hD
  refine lv_if_eq (tgt := 61) hx hb dX1_remove_20 (by decide) (fun c_2 => ?_) (fun c_2 => ?_)
  · exact hret _ _ (fl, fc) _ _ (by rw [mX1_remove]; (try dsimp only); rw [hw_1]; (try dsimp only); rw [if_pos c_2]; (first | done | rfl)) (hP.sub [1, 0] rfl) (hD.sub [1, 0] (by decide) rfl) hS dX1_remove_61
  · refine lv_iload_n hx hb dX1_remove_23 rfl (lv_at hl 0 rfl) ?_
    refine lv_aload_n hx hb dX1_remove_24 rfl (lv_at hl 2 rfl) ?_
    refine va_get (D := D) (ci := 1) (v := .ref hc) (C := RX1) (T := TX1) (N := 2) hx hb hts iX1_remove_X1 hown hK hP 1 rfl rfl 0 (by decide) (hts (.fieldLink RX1 9 "FrameCard$Frames" "cells" "[I") (by decide +kernel)) (fun _ h9 => h9) rfl dX1_remove_25 ?_
    refine va_alen (D := D) hx hb hK hP 0 0 rfl (ty := .int) rfl (v := (nI N)) rfl dX1_remove_28 ?_
    refine lv_icmp_gt (tgt := 61) hx hb dX1_remove_29 (by decide) (fun c_3 => ?_) (fun c_3 => ?_)
    · exact hret _ _ (fl, fc) _ _ (by rw [mX1_remove]; (try dsimp only); rw [hw_1]; (try dsimp only); rw [if_neg c_2]; rw [if_pos c_3]; (first | done | rfl)) (hP.sub [1, 0] rfl) (hD.sub [1, 0] (by decide) rfl) hS dX1_remove_61
    · refine lv_aload_n hx hb dX1_remove_32 rfl (lv_at hl 2 rfl) ?_
      refine va_get (D := D) (ci := 1) (v := .ref hc) (C := RX1) (T := TX1) (N := 2) hx hb hts iX1_remove_X1 hown hK hP 1 rfl rfl 0 (by decide) (hts (.fieldLink RX1 9 "FrameCard$Frames" "cells" "[I") (by decide +kernel)) (fun _ h9 => h9) rfl dX1_remove_33 ?_
      refine lv_iload_n hx hb dX1_remove_36 rfl (lv_at hl 1 rfl) ?_
      refine lv_aload_n hx hb dX1_remove_37 rfl (lv_at hl 2 rfl) ?_
      refine va_get (D := D) (ci := 1) (v := .ref hc) (C := RX1) (T := TX1) (N := 2) hx hb hts iX1_remove_X1 hown hK hP 1 rfl rfl 0 (by decide) (hts (.fieldLink RX1 9 "FrameCard$Frames" "cells" "[I") (by decide +kernel)) (fun _ h9 => h9) rfl dX1_remove_38 ?_
      refine lv_iload_n hx hb dX1_remove_41 rfl (lv_at hl 1 rfl) ?_
      refine lv_bipush (v := 7) hx hb dX1_remove_42 (by decide) ?_
      refine lv_isub hx hb dX1_remove_44 ?_
      refine lv_iload_n hx hb dX1_remove_45 rfl (lv_at hl 0 rfl) ?_
      refine lv_iload_n hx hb dX1_remove_46 rfl (lv_at hl 1 rfl) ?_
      refine lv_isub hx hb dX1_remove_47 ?_
      have hz := fc_has hw_1 c_2
      have a1 := fc_addk (x := p0) (k := 1) (n := 1) (by decide) (by omega) (by omega)
      have a2 := fc_mulk (x := p0 + 1) (k := 7) (n := 7) (by decide) (by omega) (by omega)
      have a3 := fc_mulk (x := fl) (k := 7) (n := 7) (by decide) (by omega) (by omega)
      have a4 := fc_subk (x := (p0 + 1) * 7) (k := 7) (n := 7) (by decide) (by omega) (by omega)
      have a5 := fc_sub (x := fl * 7) (y := (p0 + 1) * 7) (by omega) (by omega)
      refine va_copyi (D := D) hx hb (hml.trans hl.1.symm) hown (hts (.methodLink RX1 27 arraycopyName) (by decide +kernel)) (hts (.native arraycopyName) (by decide +kernel)) (hts (.static arraycopyName) (by decide +kernel)) (hts (.initialized "java/lang/System") (by decide +kernel)) hK hP hD hS 0 0 0 0 rfl rfl rfl rfl rfl (by have l_0 : (0 : Int32).toInt = 0 := (by decide); have l_1 : (1 : Int32).toInt = 1 := (by decide); have l_7 : (7 : Int32).toInt = 7 := (by decide); have z_N := fc_nI (n := N) (by omega); have qc_2 := c_2; (try simp only [fc_le, fc_lt, fc_eq] at qc_2); have qc_3 := c_3; (try simp only [fc_le, fc_lt, fc_eq] at qc_3); intro h9; simp only [fc_lt] at h9; omega) (by have l_0 : (0 : Int32).toInt = 0 := (by decide); have l_1 : (1 : Int32).toInt = 1 := (by decide); have l_7 : (7 : Int32).toInt = 7 := (by decide); have z_N := fc_nI (n := N) (by omega); have qc_2 := c_2; (try simp only [fc_le, fc_lt, fc_eq] at qc_2); have qc_3 := c_3; (try simp only [fc_le, fc_lt, fc_eq] at qc_3); intro h9; simp only [fc_lt] at h9; omega) (by have l_0 : (0 : Int32).toInt = 0 := (by decide); have l_1 : (1 : Int32).toInt = 1 := (by decide); have l_7 : (7 : Int32).toInt = 7 := (by decide); have z_N := fc_nI (n := N) (by omega); have qc_2 := c_2; (try simp only [fc_le, fc_lt, fc_eq] at qc_2); have qc_3 := c_3; (try simp only [fc_le, fc_lt, fc_eq] at qc_3); intro h9; simp only [fc_lt] at h9; omega) (by have l_0 : (0 : Int32).toInt = 0 := (by decide); have l_1 : (1 : Int32).toInt = 1 := (by decide); have l_7 : (7 : Int32).toInt = 7 := (by decide); have z_N := fc_nI (n := N) (by omega); have qc_2 := c_2; (try simp only [fc_le, fc_lt, fc_eq] at qc_2); have qc_3 := c_3; (try simp only [fc_le, fc_lt, fc_eq] at qc_3); simp only [fc_cl]; omega) (by have l_0 : (0 : Int32).toInt = 0 := (by decide); have l_1 : (1 : Int32).toInt = 1 := (by decide); have l_7 : (7 : Int32).toInt = 7 := (by decide); have z_N := fc_nI (n := N) (by omega); have qc_2 := c_2; (try simp only [fc_le, fc_lt, fc_eq] at qc_2); have qc_3 := c_3; (try simp only [fc_le, fc_lt, fc_eq] at qc_3); simp only [fc_cl]; omega) (fun _ _ => rfl) (Nat.le_of_ble_eq_true rfl) (by decide +kernel) dX1_remove_48 (fun H locs hP hD hS => ?_)
      have hP : va_P D vwCl [(hc, .inl (tc 0, N, .inl (va_cpy fc fc (((p0 + 1) * 7) : Int32).toNatClampNeg ((((p0 + 1) * 7) - 7) : Int32).toNatClampNeg (((fl * 7) - ((p0 + 1) * 7)) : Int32).toNatClampNeg))), (h0, .inr (1, [.ref hc, .int fl]))] H := hP
      have hD : va_D A [(hc, .inl (tc 0, N, .inl (va_cpy fc fc (((p0 + 1) * 7) : Int32).toNatClampNeg ((((p0 + 1) * 7) - 7) : Int32).toNatClampNeg (((fl * 7) - ((p0 + 1) * 7)) : Int32).toNatClampNeg))), (h0, .inr (1, [.ref hc, .int fl]))] := hD
      refine lv_aload_n hx hb dX1_remove_51 rfl (lv_at hl 2 rfl) ?_
      refine lv_dup hx hb dX1_remove_52 rfl ?_
      refine va_get (D := D) (ci := 1) (v := .int fl) (C := RX1) (T := TX1) (N := 2) hx hb hts iX1_remove_X1 hown hK hP 1 rfl rfl 1 (by decide) (hts (.fieldLink RX1 15 "FrameCard$Frames" "length" "I") (by decide +kernel)) (fun _ h9 => h9) rfl dX1_remove_53 ?_
      refine lv_iconst (v := 1) hx hb dX1_remove_56 (by decide) ?_
      refine lv_isub hx hb dX1_remove_57 ?_
      refine va_put (D := D) (ci := 1) (v := .int (fl - 1)) (ty := .int) (C := RX1) (T := TX1) (N := 2) hx hb hts iX1_remove_X1 tyX1 tyX1_ok nmX1 hown hK hP hD hS 1 rfl rfl 1 (by decide) (hts (.fieldLink RX1 15 "FrameCard$Frames" "length" "I") (by decide +kernel)) (fun _ h9 => h9) rfl (by decide +kernel) rfl rfl (Nat.le_of_ble_eq_true rfl) dX1_remove_58 (fun H locs hP hD hS => ?_)
      have hP : va_P D vwCl [(hc, .inl (tc 0, N, .inl (va_cpy fc fc (((p0 + 1) * 7) : Int32).toNatClampNeg ((((p0 + 1) * 7) - 7) : Int32).toNatClampNeg (((fl * 7) - ((p0 + 1) * 7)) : Int32).toNatClampNeg))), (h0, .inr (1, [.ref hc, .int (fl - 1)]))] H := hP
      have hD : va_D A [(hc, .inl (tc 0, N, .inl (va_cpy fc fc (((p0 + 1) * 7) : Int32).toNatClampNeg ((((p0 + 1) * 7) - 7) : Int32).toNatClampNeg (((fl * 7) - ((p0 + 1) * 7)) : Int32).toNatClampNeg))), (h0, .inr (1, [.ref hc, .int (fl - 1)]))] := hD
      exact hret _ _ ((fl - 1), (va_cpy fc fc (((p0 + 1) * 7) : Int32).toNatClampNeg ((((p0 + 1) * 7) - 7) : Int32).toNatClampNeg (((fl * 7) - ((p0 + 1) * 7)) : Int32).toNatClampNeg)) _ _ (by rw [mX1_remove]; (try dsimp only); rw [hw_1]; (try dsimp only); rw [if_neg c_2]; rw [if_neg c_3]; (first | done | rfl)) (hP.sub [1, 0] rfl) (hD.sub [1, 0] (by decide) rfl) hS dX1_remove_61
