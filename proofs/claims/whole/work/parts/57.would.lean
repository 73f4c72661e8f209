/-! The reference: what would be -/
--# X8_waitsStill
noncomputable def mX8_waitsStill_S4 (rf : Int32) (ss : Int32) (sp : Int32) (ig : Int32) (lf : Int32) (ac : Int32) (trow : Nat → Int32) (p0 : Int32) (ih_4 : Int32 → Int32 → Int32) (x2h4 : Int32) (x3h4 : Int32) : Int32 :=
  if (trow (17 : Int32).toNatClampNeg) ≤ x3h4 then
    x2h4
  else
    if x2h4 = 0 then
      let r_3 := mX8_waitAt x3h4 0
      if (trow r_3.toNatClampNeg) = p0 then
        ih_4 1 (x3h4 + 1)
      else
        ih_4 0 (x3h4 + 1)
    else
      ih_4 1 (x3h4 + 1)
noncomputable def mX8_waitsStill_L4 (rf : Int32) (ss : Int32) (sp : Int32) (ig : Int32) (lf : Int32) (ac : Int32) (trow : Nat → Int32) (p0 : Int32) (k : Nat) : Int32 → Int32 → Int32 := Nat.rec (motive := fun _ => Int32 → Int32 → Int32) (fun x2h4 x3h4 => 0) (fun _ ih => mX8_waitsStill_S4 rf ss sp ig lf ac trow p0 ih) k
theorem mX8_waitsStill_L4_z (rf : Int32) (ss : Int32) (sp : Int32) (ig : Int32) (lf : Int32) (ac : Int32) (trow : Nat → Int32) (p0 : Int32) (x2h4 : Int32) (x3h4 : Int32) : mX8_waitsStill_L4 rf ss sp ig lf ac trow p0 0 x2h4 x3h4 = 0 := rfl
theorem mX8_waitsStill_L4_s (rf : Int32) (ss : Int32) (sp : Int32) (ig : Int32) (lf : Int32) (ac : Int32) (trow : Nat → Int32) (p0 : Int32) (k : Nat) (x2h4 : Int32) (x3h4 : Int32) : mX8_waitsStill_L4 rf ss sp ig lf ac trow p0 (k + 1) x2h4 x3h4 = mX8_waitsStill_S4 rf ss sp ig lf ac trow p0 (mX8_waitsStill_L4 rf ss sp ig lf ac trow p0 k) x2h4 x3h4 := rfl
noncomputable def mX8_waitsStill (rf : Int32) (ss : Int32) (sp : Int32) (ig : Int32) (lf : Int32) (ac : Int32) (trow : Nat → Int32) (p0 : Int32) : Int32 :=
  mX8_waitsStill_L4 rf ss sp ig lf ac trow p0 5 0 0
set_option maxRecDepth 20000 in
theorem iX8_waitsStill_X8 : ∀ w ∈ wsX80, w ∈ wsX8_waitsStill := by decide +kernel
abbrev rmX8_waitsStill : Room := { frames := 1, cells := 0, slots := 0, locals := 21 }
set_option maxHeartbeats 4000000 in
set_option maxRecDepth 100000 in
theorem c_X8_waitsStill (l : Launch) (D : va_G) (tc : Nat → ClassId) (mo : Nat) (sc : Nat) (rd : Nat) (nw : Nat) (tr : Nat) (di : Nat) (kp : Nat) (ik : Nat) (rf : Int32) (ss : Int32) (sp : Int32) (ig : Int32) (lf : Int32) (ac : Int32) (trow : Nat → Int32) (p0 : Int32) (sz : Nat) (hR : RXn 1 trow) : Met l yX8_waitsStill wsX8_waitsStill rmX8_waitsStill (va_Pc [.ref mo, .int p0] (fcB D tc [(mo, .inr (8, [.int rf, .ref sc, .int ss, .int sp, .int ig, .int lf, .ref rd, .ref nw, .ref tr, .ref di, .int ac, .ref kp, .ref ik])), (tr, .inl (tc 0, 357, .inl trow))] sz)) (va_Qi (fun (r : Int32) (_ : Unit) => mX8_waitsStill rf ss sp ig lf ac trow p0 = r) (fun u t => fcO D (va_A [(mo, .inr (8, [.int rf, .ref sc, .int ss, .int sp, .int ig, .int lf, .ref rd, .ref nw, .ref tr, .ref di, .int ac, .ref kp, .ref ik])), (tr, .inl (tc 0, 357, .inl trow))] sz) ((fun (_ : Unit) => [(mo, .inr (8, [.int rf, .ref sc, .int ss, .int sp, .int ig, .int lf, .ref rd, .ref nw, .ref tr, .ref di, .int ac, .ref kp, .ref ik])), (tr, .inl (tc 0, 357, .inl trow))]) u) t) (va_A [(mo, .inr (8, [.int rf, .ref sc, .int ss, .int sp, .int ig, .int lf, .ref rd, .ref nw, .ref tr, .ref di, .int ac, .ref kp, .ref ik])), (tr, .inl (tc 0, 357, .inl trow))] sz)) 0 0 (va_A [(mo, .inr (8, [.int rf, .ref sc, .int ss, .int sp, .int ig, .int lf, .ref rd, .ref nw, .ref tr, .ref di, .int ac, .ref kp, .ref ik])), (tr, .inl (tc 0, 357, .inl trow))] sz) := by
  refine fc_ofWz (own := RX8) (cc := cX8_waitsStill) (maxL := 4) (W1 := (fun (_ : Unit) => [(mo, .inr (8, [.int rf, .ref sc, .int ss, .int sp, .int ig, .int lf, .ref rd, .ref nw, .ref tr, .ref di, .int ac, .ref kp, .ref ik])), (tr, .inl (tc 0, 357, .inl trow))])) rfl (by decide) rfl (Nat.le_of_ble_eq_true rfl) ?_
  intro p e s m args below meth c A Q hx hb hml hown hts hK hE hP hD hS hA hin hret ls hl
  have hl : lv_has ls 4 [(0, .ref mo), (1, .int p0)] := hl
  have k17 := (RX_K hR).2.2
  refine lv_iconst (v := 0) hx hb dX8_waitsStill_0 (by decide) ?_
  refine lv_istore_n (lv' := [(2, .int 0), (0, .ref mo), (1, .int p0)]) hx hb dX8_waitsStill_1 rfl hl (by decide) rfl (fun ls hl => ?_)
  refine lv_iconst (v := 0) hx hb dX8_waitsStill_2 (by decide) ?_
  refine lv_istore_n (lv' := [(3, .int 0), (2, .int 0), (0, .ref mo), (1, .int p0)]) hx hb dX8_waitsStill_3 rfl hl (by decide) rfl (fun ls hl => ?_)
  have loop_4 : ∀ (k_4 : Nat) (i_4 : Nat) (x2h4 : Int32) (x3h4 : Int32) (hb_4 : x3h4 = nI i_4) (hm_4 : i_4 ≤ 4 ∧ 4 < i_4 + k_4) (hz_4 : x2h4 = 0 ∨ x2h4 = 1) (hI_4 : mX8_waitsStill rf ss sp ig lf ac trow p0 = mX8_waitsStill_L4 rf ss sp ig lf ac trow p0 k_4 x2h4 x3h4) (H : Heap) (locs : List Loc), va_P D vwCl [(mo, .inr (8, [.int rf, .ref sc, .int ss, .int sp, .int ig, .int lf, .ref rd, .ref nw, .ref tr, .ref di, .int ac, .ref kp, .ref ik])), (tr, .inl (tc 0, 357, .inl trow))] H → va_D A [(mo, .inr (8, [.int rf, .ref sc, .int ss, .int sp, .int ig, .int lf, .ref rd, .ref nw, .ref tr, .ref di, .int ac, .ref kp, .ref ik])), (tr, .inl (tc 0, 357, .inl trow))] → va_S A s.heap H locs → ∀ ls : Array Slot, lv_has ls 4 [(3, .int x3h4), (2, .int x2h4), (0, .ref mo), (1, .int p0)] → W p l e rmX8_waitsStill s m args below meth c H locs 0 0 Q (F0 m 4 ls []) := by
    intro k_4
    induction k_4 with
    | zero =>
      intro i_4 x2h4 x3h4 hb_4 hm_4 hz_4 hI_4 H locs hP hD hS ls hl
      exact absurd hm_4 (by omega)
    | succ k_4 ih_4 =>
      intro i_4 x2h4 x3h4 hb_4 hm_4 hz_4 hI_4 H locs hP hD hS ls hl
      have zz_4 := fc_nI (n := i_4) (by omega)
      rw [← hb_4] at zz_4
      refine lv_iload_n hx hb dX8_waitsStill_4 rfl (lv_at hl 0 rfl) ?_
      refine lv_aload_n hx hb dX8_waitsStill_5 rfl (lv_at hl 2 rfl) ?_
      refine va_get (D := D) (ci := 8) (v := .ref tr) (C := RX8) (T := TX8) (N := 13) hx hb hts iX8_waitsStill_X8 hown hK hP 0 rfl rfl 8 (by decide) (hts (.fieldLink RX8 19 "FrameCardModel" "trial" "[I") (by decide +kernel)) (fun _ h9 => h9) rfl dX8_waitsStill_6 ?_
      refine lv_bipush (v := 17) hx hb dX8_waitsStill_9 (by decide) ?_
      refine va_iald (D := D) hx hb hK hP 1 0 rfl rfl (vp_in_iff.mpr (by decide)) dX8_waitsStill_11 ?_
      refine lv_icmp_ge (tgt := 45) hx hb dX8_waitsStill_12 (by decide) (fun c_1 => ?_) (fun c_1 => ?_)
      · refine lv_iload_n hx hb dX8_waitsStill_45 rfl (lv_at hl 1 rfl) ?_
        exact hret _ _ (x2h4) () _ _ hz_4 (by rw [hI_4, mX8_waitsStill_L4_s, mX8_waitsStill_S4]; (try dsimp only); rw [if_pos c_1]; (first | done | rfl)) (hP.sub [0, 1] rfl) (hD.sub [0, 1] (by decide) rfl) hS dX8_waitsStill_46
      · refine lv_iload_n hx hb dX8_waitsStill_15 rfl (lv_at hl 1 rfl) ?_
        refine lv_if_ne (tgt := 33) hx hb dX8_waitsStill_16 (by decide) (fun c_2 => ?_) (fun c_2 => ?_)
        · refine lv_iconst (v := 1) hx hb dX8_waitsStill_33 (by decide) ?_
          refine lv_goto (tgt := 38) hx hb dX8_waitsStill_34 (by decide) ?_
          refine lv_istore_n (lv' := [(2, .int 1), (3, .int x3h4), (0, .ref mo), (1, .int p0)]) hx hb dX8_waitsStill_38 rfl hl (by decide) rfl (fun ls hl => ?_)
          refine lv_iinc (v := (x3h4 + 1)) (lv' := [(3, .int (x3h4 + 1)), (2, .int 1), (0, .ref mo), (1, .int p0)]) hx hb dX8_waitsStill_39 hl (k := 1) rfl rfl (by decide) rfl (fun ls hl => ?_)
          refine lv_goto (tgt := 4) hx hb dX8_waitsStill_42 (by decide) ?_
          exact ih_4 (i_4 + 1) 1 (x3h4 + 1) (by rw [hb_4]; exact nI_1 _) (by have l_0 : (0 : Int32).toInt = 0 := (by decide); have l_1 : (1 : Int32).toInt = 1 := (by decide); have l_17 : (17 : Int32).toInt = 17 := (by decide); have l_2 : (2 : Int32).toInt = 2 := (by decide); have l_3 : (3 : Int32).toInt = 3 := (by decide); have l_4 : (4 : Int32).toInt = 4 := (by decide); have qc_1 := c_1; (try simp only [fc_le, fc_lt, fc_eq] at qc_1); have qc_2 := c_2; (try simp only [fc_le, fc_lt, fc_eq] at qc_2); skip; omega) (by first | exact Or.inl rfl | exact Or.inr rfl) (by rw [hI_4, mX8_waitsStill_L4_s, mX8_waitsStill_S4]; (try dsimp only); rw [if_neg c_1]; rw [if_neg c_2]; (first | done | rfl)) _ _ (hP.sub [0, 1] rfl) (hD.sub [0, 1] (by decide) rfl) hS ls (lv_sub hl [0, 1, 2, 3] rfl)
        · refine lv_aload_n hx hb dX8_waitsStill_19 rfl (lv_at hl 2 rfl) ?_
          refine va_get (D := D) (ci := 8) (v := .ref tr) (C := RX8) (T := TX8) (N := 13) hx hb hts iX8_waitsStill_X8 hown hK hP 0 rfl rfl 8 (by decide) (hts (.fieldLink RX8 19 "FrameCardModel" "trial" "[I") (by decide +kernel)) (fun _ h9 => h9) rfl dX8_waitsStill_20 ?_
          refine lv_iload_n hx hb dX8_waitsStill_23 rfl (lv_at hl 0 rfl) ?_
          refine lv_iconst (v := 0) hx hb dX8_waitsStill_24 (by decide) ?_
          refine fc_goi (isC := []) (isR := [0, 1]) (wc := []) (wr := [(mo, .inr (8, [.int rf, .ref sc, .int ss, .int sp, .int ig, .int lf, .ref rd, .ref nw, .ref tr, .ref di, .int ac, .ref kp, .ref ik])), (tr, .inl (tc 0, 357, .inl trow))]) hP hD hS hA rfl rfl (by decide) (by decide) (fc_runS (isC := []) (As := [.int x3h4, .int 0]) (rest := [.ref tr]) hx hb hml hown hts hK hE hP hD hS hA rfl (by decide) (c_X8_waitAt l D tc x3h4 0 _ ) (cwS 2 hts gX8_waitsStill_X8_waitAt rfl rfl rfl hd_X8_waitAt ⟨Nat.le_of_ble_eq_true rfl, Nat.le_of_ble_eq_true rfl⟩) rfl hl.1 rfl (Nat.le_of_ble_eq_true rfl) dX8_waitsStill_25 ⟨Nat.le_of_ble_eq_true rfl, Nat.le_of_ble_eq_true rfl⟩) (fun r_3 u_3 H locs hw_3 hP hD hS => ?_)
          try dsimp only at hw_3
          have hP : va_P D vwCl [(mo, .inr (8, [.int rf, .ref sc, .int ss, .int sp, .int ig, .int lf, .ref rd, .ref nw, .ref tr, .ref di, .int ac, .ref kp, .ref ik])), (tr, .inl (tc 0, 357, .inl trow))] H := hP
          have hD : va_D A [(mo, .inr (8, [.int rf, .ref sc, .int ss, .int sp, .int ig, .int lf, .ref rd, .ref nw, .ref tr, .ref di, .int ac, .ref kp, .ref ik])), (tr, .inl (tc 0, 357, .inl trow))] := hD
          have hf_3 := fx_waitAt hw_3 (by omega) (by decide)
          refine va_iald (D := D) hx hb hK hP 1 0 rfl rfl (by have l_0 : (0 : Int32).toInt = 0 := (by decide); have l_1 : (1 : Int32).toInt = 1 := (by decide); have l_17 : (17 : Int32).toInt = 17 := (by decide); have l_2 : (2 : Int32).toInt = 2 := (by decide); have l_3 : (3 : Int32).toInt = 3 := (by decide); have l_4 : (4 : Int32).toInt = 4 := (by decide); have qc_1 := c_1; (try simp only [fc_le, fc_lt, fc_eq] at qc_1); have qc_2 := c_2; (try simp only [fc_le, fc_lt, fc_eq] at qc_2); rw [vp_in_iff]; omega) dX8_waitsStill_28 ?_
          refine lv_iload_n hx hb dX8_waitsStill_29 rfl (lv_at hl 3 rfl) ?_
          refine lv_icmp_ne (tgt := 37) hx hb dX8_waitsStill_30 (by decide) (fun c_4 => ?_) (fun c_4 => ?_)
          · refine lv_iconst (v := 0) hx hb dX8_waitsStill_37 (by decide) ?_
            refine lv_istore_n (lv' := [(2, .int 0), (3, .int x3h4), (0, .ref mo), (1, .int p0)]) hx hb dX8_waitsStill_38 rfl hl (by decide) rfl (fun ls hl => ?_)
            refine lv_iinc (v := (x3h4 + 1)) (lv' := [(3, .int (x3h4 + 1)), (2, .int 0), (0, .ref mo), (1, .int p0)]) hx hb dX8_waitsStill_39 hl (k := 1) rfl rfl (by decide) rfl (fun ls hl => ?_)
            refine lv_goto (tgt := 4) hx hb dX8_waitsStill_42 (by decide) ?_
            exact ih_4 (i_4 + 1) 0 (x3h4 + 1) (by rw [hb_4]; exact nI_1 _) (by have l_0 : (0 : Int32).toInt = 0 := (by decide); have l_1 : (1 : Int32).toInt = 1 := (by decide); have l_17 : (17 : Int32).toInt = 17 := (by decide); have l_2 : (2 : Int32).toInt = 2 := (by decide); have l_3 : (3 : Int32).toInt = 3 := (by decide); have l_4 : (4 : Int32).toInt = 4 := (by decide); have qc_1 := c_1; (try simp only [fc_le, fc_lt, fc_eq] at qc_1); have qc_2 := c_2; (try simp only [fc_le, fc_lt, fc_eq] at qc_2); have qc_4 := c_4; (try simp only [fc_le, fc_lt, fc_eq] at qc_4); skip; omega) (by first | exact Or.inl rfl | exact Or.inr rfl) (by rw [hI_4, mX8_waitsStill_L4_s, mX8_waitsStill_S4]; (try dsimp only); rw [if_neg c_1]; rw [if_pos c_2]; rw [hw_3]; (try dsimp only); rw [if_neg c_4]; (first | done | rfl)) _ _ (hP.sub [0, 1] rfl) (hD.sub [0, 1] (by decide) rfl) hS ls (lv_sub hl [0, 1, 2, 3] rfl)
          · refine lv_iconst (v := 1) hx hb dX8_waitsStill_33 (by decide) ?_
            refine lv_goto (tgt := 38) hx hb dX8_waitsStill_34 (by decide) ?_
            refine lv_istore_n (lv' := [(2, .int 1), (3, .int x3h4), (0, .ref mo), (1, .int p0)]) hx hb dX8_waitsStill_38 rfl hl (by decide) rfl (fun ls hl => ?_)
            refine lv_iinc (v := (x3h4 + 1)) (lv' := [(3, .int (x3h4 + 1)), (2, .int 1), (0, .ref mo), (1, .int p0)]) hx hb dX8_waitsStill_39 hl (k := 1) rfl rfl (by decide) rfl (fun ls hl => ?_)
            refine lv_goto (tgt := 4) hx hb dX8_waitsStill_42 (by decide) ?_
            exact ih_4 (i_4 + 1) 1 (x3h4 + 1) (by rw [hb_4]; exact nI_1 _) (by have l_0 : (0 : Int32).toInt = 0 := (by decide); have l_1 : (1 : Int32).toInt = 1 := (by decide); have l_17 : (17 : Int32).toInt = 17 := (by decide); have l_2 : (2 : Int32).toInt = 2 := (by decide); have l_3 : (3 : Int32).toInt = 3 := (by decide); have l_4 : (4 : Int32).toInt = 4 := (by decide); have qc_1 := c_1; (try simp only [fc_le, fc_lt, fc_eq] at qc_1); have qc_2 := c_2; (try simp only [fc_le, fc_lt, fc_eq] at qc_2); have qc_4 := c_4; (try simp only [fc_le, fc_lt, fc_eq] at qc_4); skip; omega) (by first | exact Or.inl rfl | exact Or.inr rfl) (by rw [hI_4, mX8_waitsStill_L4_s, mX8_waitsStill_S4]; (try dsimp only); rw [if_neg c_1]; rw [if_pos c_2]; rw [hw_3]; (try dsimp only); rw [if_pos c_4]; (first | done | rfl)) _ _ (hP.sub [0, 1] rfl) (hD.sub [0, 1] (by decide) rfl) hS ls (lv_sub hl [0, 1, 2, 3] rfl)
  exact loop_4 5 0 0 0 nI_0.symm (by omega) (Or.inl rfl) (by rw [mX8_waitsStill]; (first | done | rfl)) _ _ (hP.sub [0, 1] rfl) (hD.sub [0, 1] (by decide) rfl) hS ls (lv_sub hl [0, 1, 2, 3] rfl)
--# X8_keeps
noncomputable def mX8_keeps_S4 (rf : Int32) (ss : Int32) (sp : Int32) (ig : Int32) (lf : Int32) (ac : Int32) (trow : Nat → Int32) (p0 : Int32) (ih_4 : Int32 → Int32 → Int32) (x2h4 : Int32) (x3h4 : Int32) : Int32 :=
  if (trow (16 : Int32).toNatClampNeg) ≤ x3h4 then
    x2h4
  else
    if x2h4 = 0 then
      let r_3 := mX8_keptAt x3h4 0
      if (trow r_3.toNatClampNeg) = p0 then
        ih_4 1 (x3h4 + 1)
      else
        ih_4 0 (x3h4 + 1)
    else
      ih_4 1 (x3h4 + 1)
noncomputable def mX8_keeps_L4 (rf : Int32) (ss : Int32) (sp : Int32) (ig : Int32) (lf : Int32) (ac : Int32) (trow : Nat → Int32) (p0 : Int32) (k : Nat) : Int32 → Int32 → Int32 := Nat.rec (motive := fun _ => Int32 → Int32 → Int32) (fun x2h4 x3h4 => 0) (fun _ ih => mX8_keeps_S4 rf ss sp ig lf ac trow p0 ih) k
theorem mX8_keeps_L4_z (rf : Int32) (ss : Int32) (sp : Int32) (ig : Int32) (lf : Int32) (ac : Int32) (trow : Nat → Int32) (p0 : Int32) (x2h4 : Int32) (x3h4 : Int32) : mX8_keeps_L4 rf ss sp ig lf ac trow p0 0 x2h4 x3h4 = 0 := rfl
theorem mX8_keeps_L4_s (rf : Int32) (ss : Int32) (sp : Int32) (ig : Int32) (lf : Int32) (ac : Int32) (trow : Nat → Int32) (p0 : Int32) (k : Nat) (x2h4 : Int32) (x3h4 : Int32) : mX8_keeps_L4 rf ss sp ig lf ac trow p0 (k + 1) x2h4 x3h4 = mX8_keeps_S4 rf ss sp ig lf ac trow p0 (mX8_keeps_L4 rf ss sp ig lf ac trow p0 k) x2h4 x3h4 := rfl
noncomputable def mX8_keeps (rf : Int32) (ss : Int32) (sp : Int32) (ig : Int32) (lf : Int32) (ac : Int32) (trow : Nat → Int32) (p0 : Int32) : Int32 :=
  mX8_keeps_L4 rf ss sp ig lf ac trow p0 49 0 0
set_option maxRecDepth 20000 in
theorem iX8_keeps_X8 : ∀ w ∈ wsX80, w ∈ wsX8_keeps := by decide +kernel
abbrev rmX8_keeps : Room := { frames := 1, cells := 0, slots := 0, locals := 21 }
set_option maxHeartbeats 4000000 in
set_option maxRecDepth 100000 in
theorem c_X8_keeps (l : Launch) (D : va_G) (tc : Nat → ClassId) (mo : Nat) (sc : Nat) (rd : Nat) (nw : Nat) (tr : Nat) (di : Nat) (kp : Nat) (ik : Nat) (rf : Int32) (ss : Int32) (sp : Int32) (ig : Int32) (lf : Int32) (ac : Int32) (trow : Nat → Int32) (p0 : Int32) (sz : Nat) (hR : RXn 1 trow) : Met l yX8_keeps wsX8_keeps rmX8_keeps (va_Pc [.ref mo, .int p0] (fcB D tc [(mo, .inr (8, [.int rf, .ref sc, .int ss, .int sp, .int ig, .int lf, .ref rd, .ref nw, .ref tr, .ref di, .int ac, .ref kp, .ref ik])), (tr, .inl (tc 0, 357, .inl trow))] sz)) (va_Qi (fun (r : Int32) (_ : Unit) => mX8_keeps rf ss sp ig lf ac trow p0 = r) (fun u t => fcO D (va_A [(mo, .inr (8, [.int rf, .ref sc, .int ss, .int sp, .int ig, .int lf, .ref rd, .ref nw, .ref tr, .ref di, .int ac, .ref kp, .ref ik])), (tr, .inl (tc 0, 357, .inl trow))] sz) ((fun (_ : Unit) => [(mo, .inr (8, [.int rf, .ref sc, .int ss, .int sp, .int ig, .int lf, .ref rd, .ref nw, .ref tr, .ref di, .int ac, .ref kp, .ref ik])), (tr, .inl (tc 0, 357, .inl trow))]) u) t) (va_A [(mo, .inr (8, [.int rf, .ref sc, .int ss, .int sp, .int ig, .int lf, .ref rd, .ref nw, .ref tr, .ref di, .int ac, .ref kp, .ref ik])), (tr, .inl (tc 0, 357, .inl trow))] sz)) 0 0 (va_A [(mo, .inr (8, [.int rf, .ref sc, .int ss, .int sp, .int ig, .int lf, .ref rd, .ref nw, .ref tr, .ref di, .int ac, .ref kp, .ref ik])), (tr, .inl (tc 0, 357, .inl trow))] sz) := by
  refine fc_ofWz (own := RX8) (cc := cX8_keeps) (maxL := 4) (W1 := (fun (_ : Unit) => [(mo, .inr (8, [.int rf, .ref sc, .int ss, .int sp, .int ig, .int lf, .ref rd, .ref nw, .ref tr, .ref di, .int ac, .ref kp, .ref ik])), (tr, .inl (tc 0, 357, .inl trow))])) rfl (by decide) rfl (Nat.le_of_ble_eq_true rfl) ?_
  intro p e s m args below meth c A Q hx hb hml hown hts hK hE hP hD hS hA hin hret ls hl
  have hl : lv_has ls 4 [(0, .ref mo), (1, .int p0)] := hl
  have k16 := (RX_K hR).2.1
  refine lv_iconst (v := 0) hx hb dX8_keeps_0 (by decide) ?_
  refine lv_istore_n (lv' := [(2, .int 0), (0, .ref mo), (1, .int p0)]) hx hb dX8_keeps_1 rfl hl (by decide) rfl (fun ls hl => ?_)
  refine lv_iconst (v := 0) hx hb dX8_keeps_2 (by decide) ?_
  refine lv_istore_n (lv' := [(3, .int 0), (2, .int 0), (0, .ref mo), (1, .int p0)]) hx hb dX8_keeps_3 rfl hl (by decide) rfl (fun ls hl => ?_)
  have loop_4 : ∀ (k_4 : Nat) (i_4 : Nat) (x2h4 : Int32) (x3h4 : Int32) (hb_4 : x3h4 = nI i_4) (hm_4 : i_4 ≤ 48 ∧ 48 < i_4 + k_4) (hz_4 : x2h4 = 0 ∨ x2h4 = 1) (hI_4 : mX8_keeps rf ss sp ig lf ac trow p0 = mX8_keeps_L4 rf ss sp ig lf ac trow p0 k_4 x2h4 x3h4) (H : Heap) (locs : List Loc), va_P D vwCl [(mo, .inr (8, [.int rf, .ref sc, .int ss, .int sp, .int ig, .int lf, .ref rd, .ref nw, .ref tr, .ref di, .int ac, .ref kp, .ref ik])), (tr, .inl (tc 0, 357, .inl trow))] H → va_D A [(mo, .inr (8, [.int rf, .ref sc, .int ss, .int sp, .int ig, .int lf, .ref rd, .ref nw, .ref tr, .ref di, .int ac, .ref kp, .ref ik])), (tr, .inl (tc 0, 357, .inl trow))] → va_S A s.heap H locs → ∀ ls : Array Slot, lv_has ls 4 [(3, .int x3h4), (2, .int x2h4), (0, .ref mo), (1, .int p0)] → W p l e rmX8_keeps s m args below meth c H locs 0 0 Q (F0 m 4 ls []) := by
    intro k_4
    induction k_4 with
    | zero =>
      intro i_4 x2h4 x3h4 hb_4 hm_4 hz_4 hI_4 H locs hP hD hS ls hl
      exact absurd hm_4 (by omega)
    | succ k_4 ih_4 =>
      intro i_4 x2h4 x3h4 hb_4 hm_4 hz_4 hI_4 H locs hP hD hS ls hl
      have zz_4 := fc_nI (n := i_4) (by omega)
      rw [← hb_4] at zz_4
      refine lv_iload_n hx hb dX8_keeps_4 rfl (lv_at hl 0 rfl) ?_
      refine lv_aload_n hx hb dX8_keeps_5 rfl (lv_at hl 2 rfl) ?_
      refine va_get (D := D) (ci := 8) (v := .ref tr) (C := RX8) (T := TX8) (N := 13) hx hb hts iX8_keeps_X8 hown hK hP 0 rfl rfl 8 (by decide) (hts (.fieldLink RX8 19 "FrameCardModel" "trial" "[I") (by decide +kernel)) (fun _ h9 => h9) rfl dX8_keeps_6 ?_
      refine lv_bipush (v := 16) hx hb dX8_keeps_9 (by decide) ?_
      refine va_iald (D := D) hx hb hK hP 1 0 rfl rfl (vp_in_iff.mpr (by decide)) dX8_keeps_11 ?_
      refine lv_icmp_ge (tgt := 45) hx hb dX8_keeps_12 (by decide) (fun c_1 => ?_) (fun c_1 => ?_)
      · refine lv_iload_n hx hb dX8_keeps_45 rfl (lv_at hl 1 rfl) ?_
        exact hret _ _ (x2h4) () _ _ hz_4 (by rw [hI_4, mX8_keeps_L4_s, mX8_keeps_S4]; (try dsimp only); rw [if_pos c_1]; (first | done | rfl)) (hP.sub [0, 1] rfl) (hD.sub [0, 1] (by decide) rfl) hS dX8_keeps_46
      · refine lv_iload_n hx hb dX8_keeps_15 rfl (lv_at hl 1 rfl) ?_
        refine lv_if_ne (tgt := 33) hx hb dX8_keeps_16 (by decide) (fun c_2 => ?_) (fun c_2 => ?_)
        · refine lv_iconst (v := 1) hx hb dX8_keeps_33 (by decide) ?_
          refine lv_goto (tgt := 38) hx hb dX8_keeps_34 (by decide) ?_
          refine lv_istore_n (lv' := [(2, .int 1), (3, .int x3h4), (0, .ref mo), (1, .int p0)]) hx hb dX8_keeps_38 rfl hl (by decide) rfl (fun ls hl => ?_)
          refine lv_iinc (v := (x3h4 + 1)) (lv' := [(3, .int (x3h4 + 1)), (2, .int 1), (0, .ref mo), (1, .int p0)]) hx hb dX8_keeps_39 hl (k := 1) rfl rfl (by decide) rfl (fun ls hl => ?_)
          refine lv_goto (tgt := 4) hx hb dX8_keeps_42 (by decide) ?_
          exact ih_4 (i_4 + 1) 1 (x3h4 + 1) (by rw [hb_4]; exact nI_1 _) (by have l_0 : (0 : Int32).toInt = 0 := (by decide); have l_1 : (1 : Int32).toInt = 1 := (by decide); have l_16 : (16 : Int32).toInt = 16 := (by decide); have l_2 : (2 : Int32).toInt = 2 := (by decide); have l_3 : (3 : Int32).toInt = 3 := (by decide); have l_4 : (4 : Int32).toInt = 4 := (by decide); have qc_1 := c_1; (try simp only [fc_le, fc_lt, fc_eq] at qc_1); have qc_2 := c_2; (try simp only [fc_le, fc_lt, fc_eq] at qc_2); skip; omega) (by first | exact Or.inl rfl | exact Or.inr rfl) (by rw [hI_4, mX8_keeps_L4_s, mX8_keeps_S4]; (try dsimp only); rw [if_neg c_1]; rw [if_neg c_2]; (first | done | rfl)) _ _ (hP.sub [0, 1] rfl) (hD.sub [0, 1] (by decide) rfl) hS ls (lv_sub hl [0, 1, 2, 3] rfl)
        · refine lv_aload_n hx hb dX8_keeps_19 rfl (lv_at hl 2 rfl) ?_
          refine va_get (D := D) (ci := 8) (v := .ref tr) (C := RX8) (T := TX8) (N := 13) hx hb hts iX8_keeps_X8 hown hK hP 0 rfl rfl 8 (by decide) (hts (.fieldLink RX8 19 "FrameCardModel" "trial" "[I") (by decide +kernel)) (fun _ h9 => h9) rfl dX8_keeps_20 ?_
          refine lv_iload_n hx hb dX8_keeps_23 rfl (lv_at hl 0 rfl) ?_
          refine lv_iconst (v := 0) hx hb dX8_keeps_24 (by decide) ?_
          refine fc_goi (isC := []) (isR := [0, 1]) (wc := []) (wr := [(mo, .inr (8, [.int rf, .ref sc, .int ss, .int sp, .int ig, .int lf, .ref rd, .ref nw, .ref tr, .ref di, .int ac, .ref kp, .ref ik])), (tr, .inl (tc 0, 357, .inl trow))]) hP hD hS hA rfl rfl (by decide) (by decide) (fc_runS (isC := []) (As := [.int x3h4, .int 0]) (rest := [.ref tr]) hx hb hml hown hts hK hE hP hD hS hA rfl (by decide) (c_X8_keptAt l D tc x3h4 0 _ ) (cwS 2 hts gX8_keeps_X8_keptAt rfl rfl rfl hd_X8_keptAt ⟨Nat.le_of_ble_eq_true rfl, Nat.le_of_ble_eq_true rfl⟩) rfl hl.1 rfl (Nat.le_of_ble_eq_true rfl) dX8_keeps_25 ⟨Nat.le_of_ble_eq_true rfl, Nat.le_of_ble_eq_true rfl⟩) (fun r_3 u_3 H locs hw_3 hP hD hS => ?_)
          try dsimp only at hw_3
          have hP : va_P D vwCl [(mo, .inr (8, [.int rf, .ref sc, .int ss, .int sp, .int ig, .int lf, .ref rd, .ref nw, .ref tr, .ref di, .int ac, .ref kp, .ref ik])), (tr, .inl (tc 0, 357, .inl trow))] H := hP
          have hD : va_D A [(mo, .inr (8, [.int rf, .ref sc, .int ss, .int sp, .int ig, .int lf, .ref rd, .ref nw, .ref tr, .ref di, .int ac, .ref kp, .ref ik])), (tr, .inl (tc 0, 357, .inl trow))] := hD
          have hf_3 := fx_keptAt hw_3 (by omega) (by decide)
          refine va_iald (D := D) hx hb hK hP 1 0 rfl rfl (by have l_0 : (0 : Int32).toInt = 0 := (by decide); have l_1 : (1 : Int32).toInt = 1 := (by decide); have l_16 : (16 : Int32).toInt = 16 := (by decide); have l_2 : (2 : Int32).toInt = 2 := (by decide); have l_3 : (3 : Int32).toInt = 3 := (by decide); have l_4 : (4 : Int32).toInt = 4 := (by decide); have qc_1 := c_1; (try simp only [fc_le, fc_lt, fc_eq] at qc_1); have qc_2 := c_2; (try simp only [fc_le, fc_lt, fc_eq] at qc_2); rw [vp_in_iff]; omega) dX8_keeps_28 ?_
          refine lv_iload_n hx hb dX8_keeps_29 rfl (lv_at hl 3 rfl) ?_
          refine lv_icmp_ne (tgt := 37) hx hb dX8_keeps_30 (by decide) (fun c_4 => ?_) (fun c_4 => ?_)
          · refine lv_iconst (v := 0) hx hb dX8_keeps_37 (by decide) ?_
            refine lv_istore_n (lv' := [(2, .int 0), (3, .int x3h4), (0, .ref mo), (1, .int p0)]) hx hb dX8_keeps_38 rfl hl (by decide) rfl (fun ls hl => ?_)
            refine lv_iinc (v := (x3h4 + 1)) (lv' := [(3, .int (x3h4 + 1)), (2, .int 0), (0, .ref mo), (1, .int p0)]) hx hb dX8_keeps_39 hl (k := 1) rfl rfl (by decide) rfl (fun ls hl => ?_)
            refine lv_goto (tgt := 4) hx hb dX8_keeps_42 (by decide) ?_
            exact ih_4 (i_4 + 1) 0 (x3h4 + 1) (by rw [hb_4]; exact nI_1 _) (by have l_0 : (0 : Int32).toInt = 0 := (by decide); have l_1 : (1 : Int32).toInt = 1 := (by decide); have l_16 : (16 : Int32).toInt = 16 := (by decide); have l_2 : (2 : Int32).toInt = 2 := (by decide); have l_3 : (3 : Int32).toInt = 3 := (by decide); have l_4 : (4 : Int32).toInt = 4 := (by decide); have qc_1 := c_1; (try simp only [fc_le, fc_lt, fc_eq] at qc_1); have qc_2 := c_2; (try simp only [fc_le, fc_lt, fc_eq] at qc_2); have qc_4 := c_4; (try simp only [fc_le, fc_lt, fc_eq] at qc_4); skip; omega) (by first | exact Or.inl rfl | exact Or.inr rfl) (by rw [hI_4, mX8_keeps_L4_s, mX8_keeps_S4]; (try dsimp only); rw [if_neg c_1]; rw [if_pos c_2]; rw [hw_3]; (try dsimp only); rw [if_neg c_4]; (first | done | rfl)) _ _ (hP.sub [0, 1] rfl) (hD.sub [0, 1] (by decide) rfl) hS ls (lv_sub hl [0, 1, 2, 3] rfl)
          · refine lv_iconst (v := 1) hx hb dX8_keeps_33 (by decide) ?_
            refine lv_goto (tgt := 38) hx hb dX8_keeps_34 (by decide) ?_
            refine lv_istore_n (lv' := [(2, .int 1), (3, .int x3h4), (0, .ref mo), (1, .int p0)]) hx hb dX8_keeps_38 rfl hl (by decide) rfl (fun ls hl => ?_)
            refine lv_iinc (v := (x3h4 + 1)) (lv' := [(3, .int (x3h4 + 1)), (2, .int 1), (0, .ref mo), (1, .int p0)]) hx hb dX8_keeps_39 hl (k := 1) rfl rfl (by decide) rfl (fun ls hl => ?_)
            refine lv_goto (tgt := 4) hx hb dX8_keeps_42 (by decide) ?_
            exact ih_4 (i_4 + 1) 1 (x3h4 + 1) (by rw [hb_4]; exact nI_1 _) (by have l_0 : (0 : Int32).toInt = 0 := (by decide); have l_1 : (1 : Int32).toInt = 1 := (by decide); have l_16 : (16 : Int32).toInt = 16 := (by decide); have l_2 : (2 : Int32).toInt = 2 := (by decide); have l_3 : (3 : Int32).toInt = 3 := (by decide); have l_4 : (4 : Int32).toInt = 4 := (by decide); have qc_1 := c_1; (try simp only [fc_le, fc_lt, fc_eq] at qc_1); have qc_2 := c_2; (try simp only [fc_le, fc_lt, fc_eq] at qc_2); have qc_4 := c_4; (try simp only [fc_le, fc_lt, fc_eq] at qc_4); skip; omega) (by first | exact Or.inl rfl | exact Or.inr rfl) (by rw [hI_4, mX8_keeps_L4_s, mX8_keeps_S4]; (try dsimp only); rw [if_neg c_1]; rw [if_pos c_2]; rw [hw_3]; (try dsimp only); rw [if_pos c_4]; (first | done | rfl)) _ _ (hP.sub [0, 1] rfl) (hD.sub [0, 1] (by decide) rfl) hS ls (lv_sub hl [0, 1, 2, 3] rfl)
  exact loop_4 49 0 0 0 nI_0.symm (by omega) (Or.inl rfl) (by rw [mX8_keeps]; (first | done | rfl)) _ _ (hP.sub [0, 1] rfl) (hD.sub [0, 1] (by decide) rfl) hS ls (lv_sub hl [0, 1, 2, 3] rfl)
--# X8_storedIn
theorem hd_X8_tryIt : yX8_tryIt.cls = RX8 ∧ yX8_tryIt.cls ≠ "java/lang/invoke/MethodHandle" ∧ yX8_tryIt.cls ≠ "java/lang/invoke/VarHandle" ∧ (parseMethodDescriptor yX8_tryIt.desc).map (fun d => d.parameters.length) = some 0 := by decide +kernel
theorem hd_X8_tryItn : yX8_tryIt.cls ≠ "java/lang/invoke/MethodHandle" ∧ yX8_tryIt.cls ≠ "java/lang/invoke/VarHandle" ∧ (parseMethodDescriptor yX8_tryIt.desc).map (fun d => d.parameters.length) = some 0 := by decide +kernel
theorem hd_X8_waitsStill : yX8_waitsStill.cls = RX8 ∧ yX8_waitsStill.cls ≠ "java/lang/invoke/MethodHandle" ∧ yX8_waitsStill.cls ≠ "java/lang/invoke/VarHandle" ∧ (parseMethodDescriptor yX8_waitsStill.desc).map (fun d => d.parameters.length) = some 1 := by decide +kernel
theorem hd_X8_waitsStilln : yX8_waitsStill.cls ≠ "java/lang/invoke/MethodHandle" ∧ yX8_waitsStill.cls ≠ "java/lang/invoke/VarHandle" ∧ (parseMethodDescriptor yX8_waitsStill.desc).map (fun d => d.parameters.length) = some 1 := by decide +kernel
noncomputable def mX8_storedIn_S28 (ss : Int32) (sp : Int32) (ig : Int32) (lf : Int32) (ac : Int32) (row : Nat → Int32) (p0 : Int32) (ih_28 : Int32 → (Nat → Int32) → Int32 × Int32 × (Nat → Int32)) (x2h28 : Int32) (trowh28 : Nat → Int32) : Int32 × Int32 × (Nat → Int32) :=
  if 100 ≤ x2h28 then
    ((-1), 0, trowh28)
  else
    match mX8_tick trowh28 with
    | (r_9, row_9) =>
      let r_10 := mX8_waitAt p0 0
      let r_11 := mX8_waitsStill 0 ss sp ig lf ac row_9 (row r_10.toNatClampNeg)
      if r_11 = 0 then
        (x2h28, 0, row_9)
      else
        ih_28 (x2h28 + 1) row_9
noncomputable def mX8_storedIn_L28 (ss : Int32) (sp : Int32) (ig : Int32) (lf : Int32) (ac : Int32) (row : Nat → Int32) (p0 : Int32) (k : Nat) : Int32 → (Nat → Int32) → Int32 × Int32 × (Nat → Int32) := Nat.rec (motive := fun _ => Int32 → (Nat → Int32) → Int32 × Int32 × (Nat → Int32)) (fun x2h28 trowh28 => (0, 0, trowh28)) (fun _ ih => mX8_storedIn_S28 ss sp ig lf ac row p0 ih) k
theorem mX8_storedIn_L28_z (ss : Int32) (sp : Int32) (ig : Int32) (lf : Int32) (ac : Int32) (row : Nat → Int32) (p0 : Int32) (x2h28 : Int32) (trowh28 : Nat → Int32) : mX8_storedIn_L28 ss sp ig lf ac row p0 0 x2h28 trowh28 = (0, 0, trowh28) := rfl
theorem mX8_storedIn_L28_s (ss : Int32) (sp : Int32) (ig : Int32) (lf : Int32) (ac : Int32) (row : Nat → Int32) (p0 : Int32) (k : Nat) (x2h28 : Int32) (trowh28 : Nat → Int32) : mX8_storedIn_L28 ss sp ig lf ac row p0 (k + 1) x2h28 trowh28 = mX8_storedIn_S28 ss sp ig lf ac row p0 (mX8_storedIn_L28 ss sp ig lf ac row p0 k) x2h28 trowh28 := rfl
noncomputable def mX8_storedIn (rf : Int32) (ss : Int32) (sp : Int32) (ig : Int32) (lf : Int32) (ac : Int32) (row : Nat → Int32) (trow : Nat → Int32) (p0 : Int32) : Int32 × Int32 × (Nat → Int32) :=
  let r_1 := mX8_isWaiting rf ss sp ig lf ac row p0
  if r_1 = 0 then
    (0, 1, trow)
  else
    let trow_7 := mX8_tryIt 0 ss sp ig lf ac row trow
    mX8_storedIn_L28 ss sp ig lf ac row p0 101 1 trow_7
set_option maxRecDepth 20000 in
theorem iX8_storedIn_X8 : ∀ w ∈ wsX80, w ∈ wsX8_storedIn := by decide +kernel
abbrev rmX8_storedIn : Room := { frames := 4, cells := 0, slots := 0, locals := 91 }
set_option maxHeartbeats 4000000 in
set_option maxRecDepth 100000 in
theorem c_X8_storedIn (l : Launch) (D : va_G) (tc : Nat → ClassId) (mo : Nat) (sc : Nat) (rd : Nat) (nw : Nat) (tr : Nat) (di : Nat) (kp : Nat) (ik : Nat) (rf : Int32) (ss : Int32) (sp : Int32) (ig : Int32) (lf : Int32) (ac : Int32) (row : Nat → Int32) (trow : Nat → Int32) (p0 : Int32) (sz : Nat) (hR : RXn 110 row) : Met l yX8_storedIn wsX8_storedIn rmX8_storedIn (va_Pc [.ref mo, .int p0] (fcB D tc [(mo, .inr (8, [.int rf, .ref sc, .int ss, .int sp, .int ig, .int lf, .ref rd, .ref nw, .ref tr, .ref di, .int ac, .ref kp, .ref ik])), (nw, .inl (tc 0, 357, .inl row)), (tr, .inl (tc 0, 357, .inl trow))] sz)) (va_Qi (fun (r : Int32) (u : Int32 × (Nat → Int32)) => mX8_storedIn rf ss sp ig lf ac row trow p0 = (r, u)) (fun u t => fcO D (va_A [(mo, .inr (8, [.int rf, .ref sc, .int ss, .int sp, .int ig, .int lf, .ref rd, .ref nw, .ref tr, .ref di, .int ac, .ref kp, .ref ik])), (nw, .inl (tc 0, 357, .inl row)), (tr, .inl (tc 0, 357, .inl trow))] sz) ((fun (u : Int32 × (Nat → Int32)) => [(mo, .inr (8, [.int (u.1), .ref sc, .int ss, .int sp, .int ig, .int lf, .ref rd, .ref nw, .ref tr, .ref di, .int ac, .ref kp, .ref ik])), (nw, .inl (tc 0, 357, .inl row)), (tr, .inl (tc 0, 357, .inl (u.2)))]) u) t) (va_A [(mo, .inr (8, [.int rf, .ref sc, .int ss, .int sp, .int ig, .int lf, .ref rd, .ref nw, .ref tr, .ref di, .int ac, .ref kp, .ref ik])), (nw, .inl (tc 0, 357, .inl row)), (tr, .inl (tc 0, 357, .inl trow))] sz)) 0 0 (va_A [(mo, .inr (8, [.int rf, .ref sc, .int ss, .int sp, .int ig, .int lf, .ref rd, .ref nw, .ref tr, .ref di, .int ac, .ref kp, .ref ik])), (nw, .inl (tc 0, 357, .inl row)), (tr, .inl (tc 0, 357, .inl trow))] sz) := by
  refine fc_ofWi (own := RX8) (cc := cX8_storedIn) (maxL := 3) (W1 := (fun (u : Int32 × (Nat → Int32)) => [(mo, .inr (8, [.int (u.1), .ref sc, .int ss, .int sp, .int ig, .int lf, .ref rd, .ref nw, .ref tr, .ref di, .int ac, .ref kp, .ref ik])), (nw, .inl (tc 0, 357, .inl row)), (tr, .inl (tc 0, 357, .inl (u.2)))])) rfl (by decide) rfl (Nat.le_of_ble_eq_true rfl) ?_
  intro p e s m args below meth c A Q hx hb hml hown hts hK hE hP hD hS hA hin hret ls hl
  have hl : lv_has ls 3 [(0, .ref mo), (1, .int p0)] := hl
  have k3 := (RX_K hR).1
  have k16 := (RX_K hR).2.1
  have k17 := (RX_K hR).2.2
  have k18 := RX_18 hR
  have b3 := fc_subk (x := row (3 : Int32).toNatClampNeg) (k := 1) (n := 1) (by decide) (by omega) (by omega)
  have b16 := fc_subk (x := row (16 : Int32).toNatClampNeg) (k := 1) (n := 1) (by decide) (by omega) (by omega)
  have b17 := fc_subk (x := row (17 : Int32).toNatClampNeg) (k := 1) (n := 1) (by decide) (by omega) (by omega)
  have b18 := fc_subk (x := row (18 : Int32).toNatClampNeg) (k := 1) (n := 1) (by decide) (by omega) (by omega)
  refine lv_aload_n hx hb dX8_storedIn_0 rfl (lv_at hl 0 rfl) ?_
  refine lv_aload_n hx hb dX8_storedIn_1 rfl (lv_at hl 0 rfl) ?_
  refine lv_iload_n hx hb dX8_storedIn_2 rfl (lv_at hl 1 rfl) ?_
  refine fc_goi (isC := [0, 1]) (isR := [2]) (wc := [(mo, .inr (8, [.int rf, .ref sc, .int ss, .int sp, .int ig, .int lf, .ref rd, .ref nw, .ref tr, .ref di, .int ac, .ref kp, .ref ik])), (nw, .inl (tc 0, 357, .inl row))]) (wr := [(tr, .inl (tc 0, 357, .inl trow))]) hP hD hS hA rfl rfl (by decide) (by decide) (fc_runV (isC := [0, 1]) (As := [.int p0]) (rest := [.ref mo]) hx hb hml hown hts hK hE hP hD hS hA rfl (by decide) (c_X8_isWaiting l D tc mo sc rd nw tr di kp ik rf ss sp ig lf ac row p0 _ ) (cwV 1 hts gX8_storedIn_X8_isWaiting rfl rfl rfl hd_X8_isWaiting ⟨Nat.le_of_ble_eq_true rfl, Nat.le_of_ble_eq_true rfl⟩) (ci := 8) rfl rfl rfl rfl hl.1 rfl (Nat.le_of_ble_eq_true rfl) dX8_storedIn_3 ⟨Nat.le_of_ble_eq_true rfl, Nat.le_of_ble_eq_true rfl⟩) (fun r_1 u_1 H locs hw_1 hP hD hS => ?_)
  try dsimp only at hw_1
  have hP : va_P D vwCl [(tr, .inl (tc 0, 357, .inl trow)), (mo, .inr (8, [.int rf, .ref sc, .int ss, .int sp, .int ig, .int lf, .ref rd, .ref nw, .ref tr, .ref di, .int ac, .ref kp, .ref ik])), (nw, .inl (tc 0, 357, .inl row))] H := hP
  have hD : va_D A [(tr, .inl (tc 0, 357, .inl trow)), (mo, .inr (8, [.int rf, .ref sc, .int ss, .int sp, .int ig, .int lf, .ref rd, .ref nw, .ref tr, .ref di, .int ac, .ref kp, .ref ik])), (nw, .inl (tc 0, 357, .inl row))] := hD
  have hi_1 := fx_isWaiting hw_1 k17
  refine lv_if_eq (tgt := 13) hx hb dX8_storedIn_6 (by decide) (fun c_2 => ?_) (fun c_2 => ?_)
  · refine lv_iconst (v := 1) hx hb dX8_storedIn_13 (by decide) ?_
    refine fc_goi (isC := [1]) (isR := [0, 2]) (wc := [(mo, .inr (8, [.int rf, .ref sc, .int ss, .int sp, .int ig, .int lf, .ref rd, .ref nw, .ref tr, .ref di, .int ac, .ref kp, .ref ik]))]) (wr := [(tr, .inl (tc 0, 357, .inl trow)), (nw, .inl (tc 0, 357, .inl row))]) hP hD hS hA rfl rfl (by decide) (by decide) (fc_runV (isC := [1]) (As := [.int 1]) (rest := []) hx hb hml hown hts hK hE hP hD hS hA rfl (by decide) (c_X8_refused l D tc mo sc rd nw tr di kp ik rf ss sp ig lf ac 1 _ ) (cwV 1 hts gX8_storedIn_X8_refused rfl rfl rfl hd_X8_refused ⟨Nat.le_of_ble_eq_true rfl, Nat.le_of_ble_eq_true rfl⟩) (ci := 8) rfl rfl rfl rfl hl.1 rfl (Nat.le_of_ble_eq_true rfl) dX8_storedIn_14 ⟨Nat.le_of_ble_eq_true rfl, Nat.le_of_ble_eq_true rfl⟩) (fun r_3 u_3 H locs hw_3 hP hD hS => ?_)
    obtain ⟨rf_3, rfl⟩ : ∃ z, z = u_3 := ⟨_, rfl⟩
    obtain ⟨z1_3, z2_3⟩ := fx_ref1 hw_3
    subst z1_3
    subst z2_3
    have hP : va_P D vwCl [(tr, .inl (tc 0, 357, .inl trow)), (nw, .inl (tc 0, 357, .inl row)), (mo, .inr (8, [.int 1, .ref sc, .int ss, .int sp, .int ig, .int lf, .ref rd, .ref nw, .ref tr, .ref di, .int ac, .ref kp, .ref ik]))] H := hP
    have hD : va_D A [(tr, .inl (tc 0, 357, .inl trow)), (nw, .inl (tc 0, 357, .inl row)), (mo, .inr (8, [.int 1, .ref sc, .int ss, .int sp, .int ig, .int lf, .ref rd, .ref nw, .ref tr, .ref di, .int ac, .ref kp, .ref ik]))] := hD
    refine lv_if_eq (tgt := 22) hx hb dX8_storedIn_17 (by decide) (fun c_4 => ?_) (fun c_4 => ?_)
    · exact absurd c_4 (by decide)
    · refine lv_iconst (v := 0) hx hb dX8_storedIn_20 (by decide) ?_
      exact hret _ _ (0) (1, trow) _ _ (by rw [mX8_storedIn]; (try dsimp only); rw [hw_1]; (try dsimp only); rw [if_pos c_2]; (first | done | rfl)) (hP.sub [2, 1, 0] rfl) (hD.sub [2, 1, 0] (by decide) rfl) hS dX8_storedIn_21
  · have hj_1 := hi_1.resolve_left c_2
    refine lv_iconst (v := 0) hx hb dX8_storedIn_9 (by decide) ?_
    refine lv_goto (tgt := 14) hx hb dX8_storedIn_10 (by decide) ?_
    refine fc_goi (isC := [1]) (isR := [0, 2]) (wc := [(mo, .inr (8, [.int rf, .ref sc, .int ss, .int sp, .int ig, .int lf, .ref rd, .ref nw, .ref tr, .ref di, .int ac, .ref kp, .ref ik]))]) (wr := [(tr, .inl (tc 0, 357, .inl trow)), (nw, .inl (tc 0, 357, .inl row))]) hP hD hS hA rfl rfl (by decide) (by decide) (fc_runV (isC := [1]) (As := [.int 0]) (rest := []) hx hb hml hown hts hK hE hP hD hS hA rfl (by decide) (c_X8_refused l D tc mo sc rd nw tr di kp ik rf ss sp ig lf ac 0 _ ) (cwV 1 hts gX8_storedIn_X8_refused rfl rfl rfl hd_X8_refused ⟨Nat.le_of_ble_eq_true rfl, Nat.le_of_ble_eq_true rfl⟩) (ci := 8) rfl rfl rfl rfl hl.1 rfl (Nat.le_of_ble_eq_true rfl) dX8_storedIn_14 ⟨Nat.le_of_ble_eq_true rfl, Nat.le_of_ble_eq_true rfl⟩) (fun r_5 u_5 H locs hw_5 hP hD hS => ?_)
    obtain ⟨rf_5, rfl⟩ : ∃ z, z = u_5 := ⟨_, rfl⟩
    obtain ⟨z1_5, z2_5⟩ := fx_ref0 hw_5
    subst z1_5
    subst z2_5
    have hP : va_P D vwCl [(tr, .inl (tc 0, 357, .inl trow)), (nw, .inl (tc 0, 357, .inl row)), (mo, .inr (8, [.int 0, .ref sc, .int ss, .int sp, .int ig, .int lf, .ref rd, .ref nw, .ref tr, .ref di, .int ac, .ref kp, .ref ik]))] H := hP
    have hD : va_D A [(tr, .inl (tc 0, 357, .inl trow)), (nw, .inl (tc 0, 357, .inl row)), (mo, .inr (8, [.int 0, .ref sc, .int ss, .int sp, .int ig, .int lf, .ref rd, .ref nw, .ref tr, .ref di, .int ac, .ref kp, .ref ik]))] := hD
    refine lv_if_eq (tgt := 22) hx hb dX8_storedIn_17 (by decide) (fun c_6 => ?_) (fun c_6 => ?_)
    · refine lv_aload_n hx hb dX8_storedIn_22 rfl (lv_at hl 0 rfl) ?_
      refine fc_gov (isC := [2, 1, 0]) (isR := []) (wc := [(mo, .inr (8, [.int 0, .ref sc, .int ss, .int sp, .int ig, .int lf, .ref rd, .ref nw, .ref tr, .ref di, .int ac, .ref kp, .ref ik])), (nw, .inl (tc 0, 357, .inl row)), (tr, .inl (tc 0, 357, .inl trow))]) (wr := []) hP hD hS hA rfl rfl (by decide) (by decide) (fc_runV (isC := [2, 1, 0]) (As := []) (rest := []) hx hb hml hown hts hK hE hP hD hS hA rfl (by decide) (c_X8_tryIt l D tc mo sc rd nw tr di kp ik 0 ss sp ig lf ac row trow _ ) (cwV 0 hts gX8_storedIn_X8_tryIt rfl rfl rfl hd_X8_tryIt ⟨Nat.le_of_ble_eq_true rfl, Nat.le_of_ble_eq_true rfl⟩) (ci := 8) rfl rfl rfl rfl hl.1 rfl (Nat.le_of_ble_eq_true rfl) dX8_storedIn_23 ⟨Nat.le_of_ble_eq_true rfl, Nat.le_of_ble_eq_true rfl⟩) (fun u_7 H locs hw_7 hP hD hS => ?_)
      obtain ⟨trow_7, rfl⟩ : ∃ z, z = u_7 := ⟨_, rfl⟩
      try dsimp only at hw_7
      have hP : va_P D vwCl [(mo, .inr (8, [.int 0, .ref sc, .int ss, .int sp, .int ig, .int lf, .ref rd, .ref nw, .ref tr, .ref di, .int ac, .ref kp, .ref ik])), (nw, .inl (tc 0, 357, .inl row)), (tr, .inl (tc 0, 357, .inl trow_7))] H := hP
      have hD : va_D A [(mo, .inr (8, [.int 0, .ref sc, .int ss, .int sp, .int ig, .int lf, .ref rd, .ref nw, .ref tr, .ref di, .int ac, .ref kp, .ref ik])), (nw, .inl (tc 0, 357, .inl row)), (tr, .inl (tc 0, 357, .inl trow_7))] := hD
      have hx_7 := (RX_tryIt hw_7 hR)
      refine lv_iconst (v := 1) hx hb dX8_storedIn_26 (by decide) ?_
      refine lv_istore_n (lv' := [(2, .int 1), (0, .ref mo), (1, .int p0)]) hx hb dX8_storedIn_27 rfl hl (by decide) rfl (fun ls hl => ?_)
      have loop_28 : ∀ (k_28 : Nat) (i_28 : Nat) (x2h28 : Int32) (trowh28 : Nat → Int32) (hb_28 : x2h28 = nI i_28) (hm_28 : i_28 ≤ 100 ∧ 100 < i_28 + k_28) (hx_28 : RXn (k_28 + 1) trowh28) (hI_28 : mX8_storedIn rf ss sp ig lf ac row trow p0 = mX8_storedIn_L28 ss sp ig lf ac row p0 k_28 x2h28 trowh28) (H : Heap) (locs : List Loc), va_P D vwCl [(mo, .inr (8, [.int 0, .ref sc, .int ss, .int sp, .int ig, .int lf, .ref rd, .ref nw, .ref tr, .ref di, .int ac, .ref kp, .ref ik])), (nw, .inl (tc 0, 357, .inl row)), (tr, .inl (tc 0, 357, .inl trowh28))] H → va_D A [(mo, .inr (8, [.int 0, .ref sc, .int ss, .int sp, .int ig, .int lf, .ref rd, .ref nw, .ref tr, .ref di, .int ac, .ref kp, .ref ik])), (nw, .inl (tc 0, 357, .inl row)), (tr, .inl (tc 0, 357, .inl trowh28))] → va_S A s.heap H locs → ∀ ls : Array Slot, lv_has ls 3 [(2, .int x2h28), (0, .ref mo), (1, .int p0)] → W p l e rmX8_storedIn s m args below meth c H locs 0 0 Q (F0 m 28 ls []) := by
        intro k_28
        induction k_28 with
        | zero =>
          intro i_28 x2h28 trowh28 hb_28 hm_28 hx_28 hI_28 H locs hP hD hS ls hl
          exact absurd hm_28 (by omega)
        | succ k_28 ih_28 =>
          intro i_28 x2h28 trowh28 hb_28 hm_28 hx_28 hI_28 H locs hP hD hS ls hl
          have zz_28 := fc_nI (n := i_28) (by omega)
          rw [← hb_28] at zz_28
          refine lv_iload_n hx hb dX8_storedIn_28 rfl (lv_at hl 0 rfl) ?_
          refine lv_bipush (v := 100) hx hb dX8_storedIn_29 (by decide) ?_
          refine lv_icmp_ge (tgt := 67) hx hb dX8_storedIn_31 (by decide) (fun c_8 => ?_) (fun c_8 => ?_)
          · refine lv_iconst (v := (-1)) hx hb dX8_storedIn_67 (by decide) ?_
            exact hret _ _ (-1) (0, trowh28) _ _ (by rw [hI_28, mX8_storedIn_L28_s, mX8_storedIn_S28]; (try dsimp only); rw [if_pos c_8]; (first | done | rfl)) (hP.sub [0, 1, 2] rfl) (hD.sub [0, 1, 2] (by decide) rfl) hS dX8_storedIn_68
          · refine lv_aload_n hx hb dX8_storedIn_34 rfl (lv_at hl 1 rfl) ?_
            refine va_get (D := D) (ci := 8) (v := .ref tr) (C := RX8) (T := TX8) (N := 13) hx hb hts iX8_storedIn_X8 hown hK hP 0 rfl rfl 8 (by decide) (hts (.fieldLink RX8 19 "FrameCardModel" "trial" "[I") (by decide +kernel)) (fun _ h9 => h9) rfl dX8_storedIn_35 ?_
            refine fc_goi (isC := [2]) (isR := [0, 1]) (wc := [(tr, .inl (tc 0, 357, .inl trowh28))]) (wr := [(mo, .inr (8, [.int 0, .ref sc, .int ss, .int sp, .int ig, .int lf, .ref rd, .ref nw, .ref tr, .ref di, .int ac, .ref kp, .ref ik])), (nw, .inl (tc 0, 357, .inl row))]) hP hD hS hA rfl rfl (by decide) (by decide) (fc_runS (isC := [2]) (As := [.ref tr]) (rest := []) hx hb hml hown hts hK hE hP hD hS hA rfl (by decide) (c_X8_tick l D tc tr trowh28 _ (hx_28.mono (by omega))) (cwS 1 hts gX8_storedIn_X8_tick rfl rfl rfl hd_X8_tick ⟨Nat.le_of_ble_eq_true rfl, Nat.le_of_ble_eq_true rfl⟩) rfl hl.1 rfl (Nat.le_of_ble_eq_true rfl) dX8_storedIn_38 ⟨Nat.le_of_ble_eq_true rfl, Nat.le_of_ble_eq_true rfl⟩) (fun r_9 u_9 H locs hw_9 hP hD hS => ?_)
            obtain ⟨row_9, rfl⟩ : ∃ z, z = u_9 := ⟨_, rfl⟩
            try dsimp only at hw_9
            have hP : va_P D vwCl [(mo, .inr (8, [.int 0, .ref sc, .int ss, .int sp, .int ig, .int lf, .ref rd, .ref nw, .ref tr, .ref di, .int ac, .ref kp, .ref ik])), (nw, .inl (tc 0, 357, .inl row)), (tr, .inl (tc 0, 357, .inl row_9))] H := hP
            have hD : va_D A [(mo, .inr (8, [.int 0, .ref sc, .int ss, .int sp, .int ig, .int lf, .ref rd, .ref nw, .ref tr, .ref di, .int ac, .ref kp, .ref ik])), (nw, .inl (tc 0, 357, .inl row)), (tr, .inl (tc 0, 357, .inl row_9))] := hD
            have HT := hw_9
            have hq_9 := (RX_tick hx_28 hw_9)
            refine lv_pop hx hb dX8_storedIn_41 rfl ?_
            refine lv_aload_n hx hb dX8_storedIn_42 rfl (lv_at hl 1 rfl) ?_
            refine lv_aload_n hx hb dX8_storedIn_43 rfl (lv_at hl 1 rfl) ?_
            refine va_get (D := D) (ci := 8) (v := .ref nw) (C := RX8) (T := TX8) (N := 13) hx hb hts iX8_storedIn_X8 hown hK hP 0 rfl rfl 7 (by decide) (hts (.fieldLink RX8 16 "FrameCardModel" "now" "[I") (by decide +kernel)) (fun _ h9 => h9) rfl dX8_storedIn_44 ?_
            refine lv_iload_n hx hb dX8_storedIn_47 rfl (lv_at hl 2 rfl) ?_
            refine lv_iconst (v := 0) hx hb dX8_storedIn_48 (by decide) ?_
            refine fc_goi (isC := []) (isR := [0, 1, 2]) (wc := []) (wr := [(mo, .inr (8, [.int 0, .ref sc, .int ss, .int sp, .int ig, .int lf, .ref rd, .ref nw, .ref tr, .ref di, .int ac, .ref kp, .ref ik])), (nw, .inl (tc 0, 357, .inl row)), (tr, .inl (tc 0, 357, .inl row_9))]) hP hD hS hA rfl rfl (by decide) (by decide) (fc_runS (isC := []) (As := [.int p0, .int 0]) (rest := [.ref nw, .ref mo]) hx hb hml hown hts hK hE hP hD hS hA rfl (by decide) (c_X8_waitAt l D tc p0 0 _ ) (cwS 2 hts gX8_storedIn_X8_waitAt rfl rfl rfl hd_X8_waitAt ⟨Nat.le_of_ble_eq_true rfl, Nat.le_of_ble_eq_true rfl⟩) rfl hl.1 rfl (Nat.le_of_ble_eq_true rfl) dX8_storedIn_49 ⟨Nat.le_of_ble_eq_true rfl, Nat.le_of_ble_eq_true rfl⟩) (fun r_10 u_10 H locs hw_10 hP hD hS => ?_)
            try dsimp only at hw_10
            have hP : va_P D vwCl [(mo, .inr (8, [.int 0, .ref sc, .int ss, .int sp, .int ig, .int lf, .ref rd, .ref nw, .ref tr, .ref di, .int ac, .ref kp, .ref ik])), (nw, .inl (tc 0, 357, .inl row)), (tr, .inl (tc 0, 357, .inl row_9))] H := hP
            have hD : va_D A [(mo, .inr (8, [.int 0, .ref sc, .int ss, .int sp, .int ig, .int lf, .ref rd, .ref nw, .ref tr, .ref di, .int ac, .ref kp, .ref ik])), (nw, .inl (tc 0, 357, .inl row)), (tr, .inl (tc 0, 357, .inl row_9))] := hD
            have hf_10 := fx_waitAt hw_10 (by omega) (by decide)
            refine va_iald (D := D) hx hb hK hP 1 0 rfl rfl (by have l_0 : (0 : Int32).toInt = 0 := (by decide); have l_1 : (1 : Int32).toInt = 1 := (by decide); have l_100 : (100 : Int32).toInt = 100 := (by decide); have l_2 : (2 : Int32).toInt = 2 := (by decide); have l_3 : (3 : Int32).toInt = 3 := (by decide); have l_4 : (4 : Int32).toInt = 4 := (by decide); have qc_8 := c_8; (try simp only [fc_le, fc_lt, fc_eq] at qc_8); rw [vp_in_iff]; omega) dX8_storedIn_52 ?_
            refine fc_goi (isC := [0, 2]) (isR := [1]) (wc := [(mo, .inr (8, [.int 0, .ref sc, .int ss, .int sp, .int ig, .int lf, .ref rd, .ref nw, .ref tr, .ref di, .int ac, .ref kp, .ref ik])), (tr, .inl (tc 0, 357, .inl row_9))]) (wr := [(nw, .inl (tc 0, 357, .inl row))]) hP hD hS hA rfl rfl (by decide) (by decide) (fc_runV (isC := [0, 2]) (As := [.int (row r_10.toNatClampNeg)]) (rest := []) hx hb hml hown hts hK hE hP hD hS hA rfl (by decide) (c_X8_waitsStill l D tc mo sc rd nw tr di kp ik 0 ss sp ig lf ac row_9 (row r_10.toNatClampNeg) _ (hq_9.mono (by omega))) (cwV 1 hts gX8_storedIn_X8_waitsStill rfl rfl rfl hd_X8_waitsStill ⟨Nat.le_of_ble_eq_true rfl, Nat.le_of_ble_eq_true rfl⟩) (ci := 8) rfl rfl rfl rfl hl.1 rfl (Nat.le_of_ble_eq_true rfl) dX8_storedIn_53 ⟨Nat.le_of_ble_eq_true rfl, Nat.le_of_ble_eq_true rfl⟩) (fun r_11 u_11 H locs hw_11 hP hD hS => ?_)
            try dsimp only at hw_11
            have hP : va_P D vwCl [(nw, .inl (tc 0, 357, .inl row)), (mo, .inr (8, [.int 0, .ref sc, .int ss, .int sp, .int ig, .int lf, .ref rd, .ref nw, .ref tr, .ref di, .int ac, .ref kp, .ref ik])), (tr, .inl (tc 0, 357, .inl row_9))] H := hP
            have hD : va_D A [(nw, .inl (tc 0, 357, .inl row)), (mo, .inr (8, [.int 0, .ref sc, .int ss, .int sp, .int ig, .int lf, .ref rd, .ref nw, .ref tr, .ref di, .int ac, .ref kp, .ref ik])), (tr, .inl (tc 0, 357, .inl row_9))] := hD
            refine lv_if_ne (tgt := 61) hx hb dX8_storedIn_56 (by decide) (fun c_12 => ?_) (fun c_12 => ?_)
            · refine lv_iinc (v := (x2h28 + 1)) (lv' := [(2, .int (x2h28 + 1)), (0, .ref mo), (1, .int p0)]) hx hb dX8_storedIn_61 hl (k := 0) rfl rfl (by decide) rfl (fun ls hl => ?_)
              refine lv_goto (tgt := 28) hx hb dX8_storedIn_64 (by decide) ?_
              exact ih_28 (i_28 + 1) (x2h28 + 1) row_9 (by rw [hb_28]; exact nI_1 _) (by have l_0 : (0 : Int32).toInt = 0 := (by decide); have l_1 : (1 : Int32).toInt = 1 := (by decide); have l_100 : (100 : Int32).toInt = 100 := (by decide); have l_2 : (2 : Int32).toInt = 2 := (by decide); have l_3 : (3 : Int32).toInt = 3 := (by decide); have l_4 : (4 : Int32).toInt = 4 := (by decide); have qc_8 := c_8; (try simp only [fc_le, fc_lt, fc_eq] at qc_8); have qc_12 := c_12; (try simp only [fc_le, fc_lt, fc_eq] at qc_12); skip; omega) (RX_tick hx_28 HT) (by rw [hI_28, mX8_storedIn_L28_s, mX8_storedIn_S28]; (try dsimp only); rw [if_neg c_8]; rw [hw_9]; (try dsimp only); rw [hw_10]; (try dsimp only); rw [hw_11]; (try dsimp only); rw [if_neg c_12]; (first | done | rfl)) _ _ (hP.sub [1, 0, 2] rfl) (hD.sub [1, 0, 2] (by decide) rfl) hS ls (lv_sub hl [0, 1, 2] rfl)
            · refine lv_iload_n hx hb dX8_storedIn_59 rfl (lv_at hl 0 rfl) ?_
              exact hret _ _ (x2h28) (0, row_9) _ _ (by rw [hI_28, mX8_storedIn_L28_s, mX8_storedIn_S28]; (try dsimp only); rw [if_neg c_8]; rw [hw_9]; (try dsimp only); rw [hw_10]; (try dsimp only); rw [hw_11]; (try dsimp only); rw [if_pos c_12]; (first | done | rfl)) (hP.sub [1, 0, 2] rfl) (hD.sub [1, 0, 2] (by decide) rfl) hS dX8_storedIn_60
      exact loop_28 101 1 1 trow_7 rfl (by omega) (hx_7.mono (by omega)) (by rw [mX8_storedIn]; (try dsimp only); rw [hw_1]; (try dsimp only); rw [if_neg c_2]; rw [hw_7]; (try dsimp only); (first | done | rfl)) _ _ (hP.sub [0, 1, 2] rfl) (hD.sub [0, 1, 2] (by decide) rfl) hS ls (lv_sub hl [0, 1, 2] rfl)
    · exact absurd (by decide) c_6
--# X8_least
noncomputable def mX8_least (rf : Int32) (ss : Int32) (sp : Int32) (ig : Int32) (lf : Int32) (ac : Int32) (row : Nat → Int32) : Int32 × Int32 :=
  let r_1 := mX8_leastOf row
  if 0 ≤ r_1 then
    let r_3 := mX8_keptAt r_1 0
    ((row r_3.toNatClampNeg), 0)
  else
    ((-1), 0)
set_option maxRecDepth 20000 in
theorem iX8_least_X8 : ∀ w ∈ wsX80, w ∈ wsX8_least := by decide +kernel
abbrev rmX8_least : Room := { frames := 3, cells := 0, slots := 0, locals := 69 }
set_option maxHeartbeats 4000000 in
set_option maxRecDepth 100000 in
theorem c_X8_least (l : Launch) (D : va_G) (tc : Nat → ClassId) (mo : Nat) (sc : Nat) (rd : Nat) (nw : Nat) (tr : Nat) (di : Nat) (kp : Nat) (ik : Nat) (rf : Int32) (ss : Int32) (sp : Int32) (ig : Int32) (lf : Int32) (ac : Int32) (row : Nat → Int32) (sz : Nat) (hR : RXn 51 row) : Met l yX8_least wsX8_least rmX8_least (va_Pc [.ref mo] (fcB D tc [(mo, .inr (8, [.int rf, .ref sc, .int ss, .int sp, .int ig, .int lf, .ref rd, .ref nw, .ref tr, .ref di, .int ac, .ref kp, .ref ik])), (nw, .inl (tc 0, 357, .inl row))] sz)) (va_Qi (fun (r : Int32) (u : Int32) => mX8_least rf ss sp ig lf ac row = (r, u)) (fun u t => fcO D (va_A [(mo, .inr (8, [.int rf, .ref sc, .int ss, .int sp, .int ig, .int lf, .ref rd, .ref nw, .ref tr, .ref di, .int ac, .ref kp, .ref ik])), (nw, .inl (tc 0, 357, .inl row))] sz) ((fun (u : Int32) => [(mo, .inr (8, [.int u, .ref sc, .int ss, .int sp, .int ig, .int lf, .ref rd, .ref nw, .ref tr, .ref di, .int ac, .ref kp, .ref ik])), (nw, .inl (tc 0, 357, .inl row))]) u) t) (va_A [(mo, .inr (8, [.int rf, .ref sc, .int ss, .int sp, .int ig, .int lf, .ref rd, .ref nw, .ref tr, .ref di, .int ac, .ref kp, .ref ik])), (nw, .inl (tc 0, 357, .inl row))] sz)) 0 0 (va_A [(mo, .inr (8, [.int rf, .ref sc, .int ss, .int sp, .int ig, .int lf, .ref rd, .ref nw, .ref tr, .ref di, .int ac, .ref kp, .ref ik])), (nw, .inl (tc 0, 357, .inl row))] sz) := by
  refine fc_ofWi (own := RX8) (cc := cX8_least) (maxL := 2) (W1 := (fun (u : Int32) => [(mo, .inr (8, [.int u, .ref sc, .int ss, .int sp, .int ig, .int lf, .ref rd, .ref nw, .ref tr, .ref di, .int ac, .ref kp, .ref ik])), (nw, .inl (tc 0, 357, .inl row))])) rfl (by decide) rfl (Nat.le_of_ble_eq_true rfl) ?_
  intro p e s m args below meth c A Q hx hb hml hown hts hK hE hP hD hS hA hin hret ls hl
  have hl : lv_has ls 2 [(0, .ref mo)] := hl
  have k3 := (RX_K hR).1
  have k16 := (RX_K hR).2.1
  have k17 := (RX_K hR).2.2
  have k18 := RX_18 hR
  have b3 := fc_subk (x := row (3 : Int32).toNatClampNeg) (k := 1) (n := 1) (by decide) (by omega) (by omega)
  have b16 := fc_subk (x := row (16 : Int32).toNatClampNeg) (k := 1) (n := 1) (by decide) (by omega) (by omega)
  have b17 := fc_subk (x := row (17 : Int32).toNatClampNeg) (k := 1) (n := 1) (by decide) (by omega) (by omega)
  have b18 := fc_subk (x := row (18 : Int32).toNatClampNeg) (k := 1) (n := 1) (by decide) (by omega) (by omega)
  refine lv_aload_n hx hb dX8_least_0 rfl (lv_at hl 0 rfl) ?_
  refine lv_iconst (v := 0) hx hb dX8_least_1 (by decide) ?_
  refine va_put (D := D) (ci := 8) (v := .int 0) (ty := .int) (C := RX8) (T := TX8) (N := 13) hx hb hts iX8_least_X8 tyX8 tyX8_ok nmX8 hown hK hP hD hS 0 rfl rfl 0 (by decide) (hts (.fieldLink RX8 36 "FrameCardModel" "refusal" "I") (by decide +kernel)) (fun _ h9 => h9) rfl (by decide +kernel) rfl rfl (Nat.le_of_ble_eq_true rfl) dX8_least_2 (fun H locs hP hD hS => ?_)
  have hP : va_P D vwCl [(mo, .inr (8, [.int 0, .ref sc, .int ss, .int sp, .int ig, .int lf, .ref rd, .ref nw, .ref tr, .ref di, .int ac, .ref kp, .ref ik])), (nw, .inl (tc 0, 357, .inl row))] H := hP
  have hD : va_D A [(mo, .inr (8, [.int 0, .ref sc, .int ss, .int sp, .int ig, .int lf, .ref rd, .ref nw, .ref tr, .ref di, .int ac, .ref kp, .ref ik])), (nw, .inl (tc 0, 357, .inl row))] := hD
  refine lv_aload_n hx hb dX8_least_5 rfl (lv_at hl 0 rfl) ?_
  refine va_get (D := D) (ci := 8) (v := .ref nw) (C := RX8) (T := TX8) (N := 13) hx hb hts iX8_least_X8 hown hK hP 0 rfl rfl 7 (by decide) (hts (.fieldLink RX8 16 "FrameCardModel" "now" "[I") (by decide +kernel)) (fun _ h9 => h9) rfl dX8_least_6 ?_
  refine fc_goi (isC := [1]) (isR := [0]) (wc := [(nw, .inl (tc 0, 357, .inl row))]) (wr := [(mo, .inr (8, [.int 0, .ref sc, .int ss, .int sp, .int ig, .int lf, .ref rd, .ref nw, .ref tr, .ref di, .int ac, .ref kp, .ref ik]))]) hP hD hS hA rfl rfl (by decide) (by decide) (fc_runS (isC := [1]) (As := [.ref nw]) (rest := []) hx hb hml hown hts hK hE hP hD hS hA rfl (by decide) (c_X8_leastOf l D tc nw row _ (by omega)) (cwS 1 hts gX8_least_X8_leastOf rfl rfl rfl hd_X8_leastOf ⟨Nat.le_of_ble_eq_true rfl, Nat.le_of_ble_eq_true rfl⟩) rfl hl.1 rfl (Nat.le_of_ble_eq_true rfl) dX8_least_9 ⟨Nat.le_of_ble_eq_true rfl, Nat.le_of_ble_eq_true rfl⟩) (fun r_1 u_1 H locs hw_1 hP hD hS => ?_)
  try dsimp only at hw_1
  have hP : va_P D vwCl [(mo, .inr (8, [.int 0, .ref sc, .int ss, .int sp, .int ig, .int lf, .ref rd, .ref nw, .ref tr, .ref di, .int ac, .ref kp, .ref ik])), (nw, .inl (tc 0, 357, .inl row))] H := hP
  have hD : va_D A [(mo, .inr (8, [.int 0, .ref sc, .int ss, .int sp, .int ig, .int lf, .ref rd, .ref nw, .ref tr, .ref di, .int ac, .ref kp, .ref ik])), (nw, .inl (tc 0, 357, .inl row))] := hD
  have hl_1 := RX_least2 hR hw_1
  refine lv_istore_n (lv' := [(1, .int r_1), (0, .ref mo)]) hx hb dX8_least_12 rfl hl (by decide) rfl (fun ls hl => ?_)
  refine lv_iload_n hx hb dX8_least_13 rfl (lv_at hl 0 rfl) ?_
  refine lv_if_ge (tgt := 21) hx hb dX8_least_14 (by decide) (fun c_2 => ?_) (fun c_2 => ?_)
  · refine lv_aload_n hx hb dX8_least_21 rfl (lv_at hl 1 rfl) ?_
    refine va_get (D := D) (ci := 8) (v := .ref nw) (C := RX8) (T := TX8) (N := 13) hx hb hts iX8_least_X8 hown hK hP 0 rfl rfl 7 (by decide) (hts (.fieldLink RX8 16 "FrameCardModel" "now" "[I") (by decide +kernel)) (fun _ h9 => h9) rfl dX8_least_22 ?_
    refine lv_iload_n hx hb dX8_least_25 rfl (lv_at hl 0 rfl) ?_
    refine lv_iconst (v := 0) hx hb dX8_least_26 (by decide) ?_
    refine fc_goi (isC := []) (isR := [0, 1]) (wc := []) (wr := [(mo, .inr (8, [.int 0, .ref sc, .int ss, .int sp, .int ig, .int lf, .ref rd, .ref nw, .ref tr, .ref di, .int ac, .ref kp, .ref ik])), (nw, .inl (tc 0, 357, .inl row))]) hP hD hS hA rfl rfl (by decide) (by decide) (fc_runS (isC := []) (As := [.int r_1, .int 0]) (rest := [.ref nw]) hx hb hml hown hts hK hE hP hD hS hA rfl (by decide) (c_X8_keptAt l D tc r_1 0 _ ) (cwS 2 hts gX8_least_X8_keptAt rfl rfl rfl hd_X8_keptAt ⟨Nat.le_of_ble_eq_true rfl, Nat.le_of_ble_eq_true rfl⟩) rfl hl.1 rfl (Nat.le_of_ble_eq_true rfl) dX8_least_27 ⟨Nat.le_of_ble_eq_true rfl, Nat.le_of_ble_eq_true rfl⟩) (fun r_3 u_3 H locs hw_3 hP hD hS => ?_)
    try dsimp only at hw_3
    have hP : va_P D vwCl [(mo, .inr (8, [.int 0, .ref sc, .int ss, .int sp, .int ig, .int lf, .ref rd, .ref nw, .ref tr, .ref di, .int ac, .ref kp, .ref ik])), (nw, .inl (tc 0, 357, .inl row))] H := hP
    have hD : va_D A [(mo, .inr (8, [.int 0, .ref sc, .int ss, .int sp, .int ig, .int lf, .ref rd, .ref nw, .ref tr, .ref di, .int ac, .ref kp, .ref ik])), (nw, .inl (tc 0, 357, .inl row))] := hD
    have hf_3 := fx_keptAt hw_3 (by omega) (by decide)
    refine va_iald (D := D) hx hb hK hP 1 0 rfl rfl (by have l_0 : (0 : Int32).toInt = 0 := (by decide); have l_1 : (1 : Int32).toInt = 1 := (by decide); have l_2 : (2 : Int32).toInt = 2 := (by decide); have l_3 : (3 : Int32).toInt = 3 := (by decide); have l_4 : (4 : Int32).toInt = 4 := (by decide); have qc_2 := c_2; (try simp only [fc_le, fc_lt, fc_eq] at qc_2); rw [vp_in_iff]; omega) dX8_least_30 ?_
    exact hret _ _ (row r_3.toNatClampNeg) 0 _ _ (by rw [mX8_least]; (try dsimp only); rw [hw_1]; (try dsimp only); rw [if_pos c_2]; rw [hw_3]; (try dsimp only); (first | done | rfl)) (hP.sub [0, 1] rfl) (hD.sub [0, 1] (by decide) rfl) hS dX8_least_31
  · refine lv_iconst (v := (-1)) hx hb dX8_least_17 (by decide) ?_
    refine lv_goto (tgt := 31) hx hb dX8_least_18 (by decide) ?_
    exact hret _ _ (-1) 0 _ _ (by rw [mX8_least]; (try dsimp only); rw [hw_1]; (try dsimp only); rw [if_neg c_2]; (first | done | rfl)) (hP.sub [0, 1] rfl) (hD.sub [0, 1] (by decide) rfl) hS dX8_least_31
--# X8_room
noncomputable def mX8_room (rf : Int32) (ss : Int32) (sp : Int32) (ig : Int32) (lf : Int32) (ac : Int32) (row : Nat → Int32) (p0 : Int32) : Int32 × Int32 :=
  let r_1 := mX8_in p0.toInt64 0 54
  if r_1 = 0 then
    (0, 1)
  else
    let r_7 := mX8_count row (-1)
    let r_8 := mX8_count row (-2)
    let r_9 := mX8_sizeOf p0
    (((r_7 + r_8) / r_9), 0)
set_option maxRecDepth 20000 in
theorem iX8_room_X8 : ∀ w ∈ wsX80, w ∈ wsX8_room := by decide +kernel
abbrev rmX8_room : Room := { frames := 1, cells := 0, slots := 0, locals := 25 }
set_option maxHeartbeats 4000000 in
set_option maxRecDepth 100000 in
theorem c_X8_room (l : Launch) (D : va_G) (tc : Nat → ClassId) (mo : Nat) (sc : Nat) (rd : Nat) (nw : Nat) (tr : Nat) (di : Nat) (kp : Nat) (ik : Nat) (rf : Int32) (ss : Int32) (sp : Int32) (ig : Int32) (lf : Int32) (ac : Int32) (row : Nat → Int32) (p0 : Int32) (sz : Nat) (hR : RXn 51 row) : Met l yX8_room wsX8_room rmX8_room (va_Pc [.ref mo, .int p0] (fcB D tc [(mo, .inr (8, [.int rf, .ref sc, .int ss, .int sp, .int ig, .int lf, .ref rd, .ref nw, .ref tr, .ref di, .int ac, .ref kp, .ref ik])), (nw, .inl (tc 0, 357, .inl row))] sz)) (va_Qi (fun (r : Int32) (u : Int32) => mX8_room rf ss sp ig lf ac row p0 = (r, u)) (fun u t => fcO D (va_A [(mo, .inr (8, [.int rf, .ref sc, .int ss, .int sp, .int ig, .int lf, .ref rd, .ref nw, .ref tr, .ref di, .int ac, .ref kp, .ref ik])), (nw, .inl (tc 0, 357, .inl row))] sz) ((fun (u : Int32) => [(mo, .inr (8, [.int u, .ref sc, .int ss, .int sp, .int ig, .int lf, .ref rd, .ref nw, .ref tr, .ref di, .int ac, .ref kp, .ref ik])), (nw, .inl (tc 0, 357, .inl row))]) u) t) (va_A [(mo, .inr (8, [.int rf, .ref sc, .int ss, .int sp, .int ig, .int lf, .ref rd, .ref nw, .ref tr, .ref di, .int ac, .ref kp, .ref ik])), (nw, .inl (tc 0, 357, .inl row))] sz)) 0 0 (va_A [(mo, .inr (8, [.int rf, .ref sc, .int ss, .int sp, .int ig, .int lf, .ref rd, .ref nw, .ref tr, .ref di, .int ac, .ref kp, .ref ik])), (nw, .inl (tc 0, 357, .inl row))] sz) := by
  refine fc_ofWi (own := RX8) (cc := cX8_room) (maxL := 2) (W1 := (fun (u : Int32) => [(mo, .inr (8, [.int u, .ref sc, .int ss, .int sp, .int ig, .int lf, .ref rd, .ref nw, .ref tr, .ref di, .int ac, .ref kp, .ref ik])), (nw, .inl (tc 0, 357, .inl row))])) rfl (by decide) rfl (Nat.le_of_ble_eq_true rfl) ?_
  intro p e s m args below meth c A Q hx hb hml hown hts hK hE hP hD hS hA hin hret ls hl
  have hl : lv_has ls 2 [(0, .ref mo), (1, .int p0)] := hl
  refine lv_aload_n hx hb dX8_room_0 rfl (lv_at hl 0 rfl) ?_
  refine lv_iload_n hx hb dX8_room_1 rfl (lv_at hl 1 rfl) ?_
  refine lv_i2l hx hb dX8_room_2 rfl ?_
  refine lv_lconst (v := 0) hx hb dX8_room_3 (by decide) ?_
  refine lv_ldc2 (v := 54) hx hb hown (hts (.constantLong RX8 197 54) (by decide +kernel)) dX8_room_4 ?_
  refine fc_goi (isC := []) (isR := [0, 1]) (wc := []) (wr := [(mo, .inr (8, [.int rf, .ref sc, .int ss, .int sp, .int ig, .int lf, .ref rd, .ref nw, .ref tr, .ref di, .int ac, .ref kp, .ref ik])), (nw, .inl (tc 0, 357, .inl row))]) hP hD hS hA rfl rfl (by decide) (by decide) (fc_runS (isC := []) (As := [.long p0.toInt64, .long 0, .long 54]) (rest := [.ref mo]) hx hb hml hown hts hK hE hP hD hS hA rfl (by decide) (c_X8_in l D tc p0.toInt64 0 54 _ ) (cwS 3 hts gX8_room_X8_in rfl rfl rfl hd_X8_in ⟨Nat.le_of_ble_eq_true rfl, Nat.le_of_ble_eq_true rfl⟩) rfl hl.1 rfl (Nat.le_of_ble_eq_true rfl) dX8_room_7 ⟨Nat.le_of_ble_eq_true rfl, Nat.le_of_ble_eq_true rfl⟩) (fun r_1 u_1 H locs hw_1 hP hD hS => ?_)
  try dsimp only at hw_1
  have hP : va_P D vwCl [(mo, .inr (8, [.int rf, .ref sc, .int ss, .int sp, .int ig, .int lf, .ref rd, .ref nw, .ref tr, .ref di, .int ac, .ref kp, .ref ik])), (nw, .inl (tc 0, 357, .inl row))] H := hP
  have hD : va_D A [(mo, .inr (8, [.int rf, .ref sc, .int ss, .int sp, .int ig, .int lf, .ref rd, .ref nw, .ref tr, .ref di, .int ac, .ref kp, .ref ik])), (nw, .inl (tc 0, 357, .inl row))] := hD
  have hi_1 := fx_in3 hw_1 (A := p0.toInt) (B := 0) (C := 54) (Int32.toInt_toInt64 _) (by decide) (by decide)
  refine lv_if_eq (tgt := 17) hx hb dX8_room_10 (by decide) (fun c_2 => ?_) (fun c_2 => ?_)
  · refine lv_iconst (v := 1) hx hb dX8_room_17 (by decide) ?_
    refine fc_goi (isC := [0]) (isR := [1]) (wc := [(mo, .inr (8, [.int rf, .ref sc, .int ss, .int sp, .int ig, .int lf, .ref rd, .ref nw, .ref tr, .ref di, .int ac, .ref kp, .ref ik]))]) (wr := [(nw, .inl (tc 0, 357, .inl row))]) hP hD hS hA rfl rfl (by decide) (by decide) (fc_runV (isC := [0]) (As := [.int 1]) (rest := []) hx hb hml hown hts hK hE hP hD hS hA rfl (by decide) (c_X8_refused l D tc mo sc rd nw tr di kp ik rf ss sp ig lf ac 1 _ ) (cwV 1 hts gX8_room_X8_refused rfl rfl rfl hd_X8_refused ⟨Nat.le_of_ble_eq_true rfl, Nat.le_of_ble_eq_true rfl⟩) (ci := 8) rfl rfl rfl rfl hl.1 rfl (Nat.le_of_ble_eq_true rfl) dX8_room_18 ⟨Nat.le_of_ble_eq_true rfl, Nat.le_of_ble_eq_true rfl⟩) (fun r_3 u_3 H locs hw_3 hP hD hS => ?_)
    obtain ⟨rf_3, rfl⟩ : ∃ z, z = u_3 := ⟨_, rfl⟩
    obtain ⟨z1_3, z2_3⟩ := fx_ref1 hw_3
    subst z1_3
    subst z2_3
    have hP : va_P D vwCl [(nw, .inl (tc 0, 357, .inl row)), (mo, .inr (8, [.int 1, .ref sc, .int ss, .int sp, .int ig, .int lf, .ref rd, .ref nw, .ref tr, .ref di, .int ac, .ref kp, .ref ik]))] H := hP
    have hD : va_D A [(nw, .inl (tc 0, 357, .inl row)), (mo, .inr (8, [.int 1, .ref sc, .int ss, .int sp, .int ig, .int lf, .ref rd, .ref nw, .ref tr, .ref di, .int ac, .ref kp, .ref ik]))] := hD
    refine lv_if_eq (tgt := 28) hx hb dX8_room_21 (by decide) (fun c_4 => ?_) (fun c_4 => ?_)
    · exact absurd c_4 (by decide)
    · refine lv_iconst (v := 0) hx hb dX8_room_24 (by decide) ?_
      refine lv_goto (tgt := 51) hx hb dX8_room_25 (by decide) ?_
      exact hret _ _ (0) 1 _ _ (by rw [mX8_room]; (try dsimp only); rw [hw_1]; (try dsimp only); rw [if_pos c_2]; (first | done | rfl)) (hP.sub [1, 0] rfl) (hD.sub [1, 0] (by decide) rfl) hS dX8_room_51
  · have hj_1 := hi_1.resolve_left c_2
    refine lv_iconst (v := 0) hx hb dX8_room_13 (by decide) ?_
    refine lv_goto (tgt := 18) hx hb dX8_room_14 (by decide) ?_
    refine fc_goi (isC := [0]) (isR := [1]) (wc := [(mo, .inr (8, [.int rf, .ref sc, .int ss, .int sp, .int ig, .int lf, .ref rd, .ref nw, .ref tr, .ref di, .int ac, .ref kp, .ref ik]))]) (wr := [(nw, .inl (tc 0, 357, .inl row))]) hP hD hS hA rfl rfl (by decide) (by decide) (fc_runV (isC := [0]) (As := [.int 0]) (rest := []) hx hb hml hown hts hK hE hP hD hS hA rfl (by decide) (c_X8_refused l D tc mo sc rd nw tr di kp ik rf ss sp ig lf ac 0 _ ) (cwV 1 hts gX8_room_X8_refused rfl rfl rfl hd_X8_refused ⟨Nat.le_of_ble_eq_true rfl, Nat.le_of_ble_eq_true rfl⟩) (ci := 8) rfl rfl rfl rfl hl.1 rfl (Nat.le_of_ble_eq_true rfl) dX8_room_18 ⟨Nat.le_of_ble_eq_true rfl, Nat.le_of_ble_eq_true rfl⟩) (fun r_5 u_5 H locs hw_5 hP hD hS => ?_)
    obtain ⟨rf_5, rfl⟩ : ∃ z, z = u_5 := ⟨_, rfl⟩
    obtain ⟨z1_5, z2_5⟩ := fx_ref0 hw_5
    subst z1_5
    subst z2_5
    have hP : va_P D vwCl [(nw, .inl (tc 0, 357, .inl row)), (mo, .inr (8, [.int 0, .ref sc, .int ss, .int sp, .int ig, .int lf, .ref rd, .ref nw, .ref tr, .ref di, .int ac, .ref kp, .ref ik]))] H := hP
    have hD : va_D A [(nw, .inl (tc 0, 357, .inl row)), (mo, .inr (8, [.int 0, .ref sc, .int ss, .int sp, .int ig, .int lf, .ref rd, .ref nw, .ref tr, .ref di, .int ac, .ref kp, .ref ik]))] := hD
    refine lv_if_eq (tgt := 28) hx hb dX8_room_21 (by decide) (fun c_6 => ?_) (fun c_6 => ?_)
    · refine lv_aload_n hx hb dX8_room_28 rfl (lv_at hl 0 rfl) ?_
      refine va_get (D := D) (ci := 8) (v := .ref nw) (C := RX8) (T := TX8) (N := 13) hx hb hts iX8_room_X8 hown hK hP 1 rfl rfl 7 (by decide) (hts (.fieldLink RX8 16 "FrameCardModel" "now" "[I") (by decide +kernel)) (fun _ h9 => h9) rfl dX8_room_29 ?_
      refine lv_iconst (v := (-1)) hx hb dX8_room_32 (by decide) ?_
      refine fc_goi (isC := [0]) (isR := [1]) (wc := [(nw, .inl (tc 0, 357, .inl row))]) (wr := [(mo, .inr (8, [.int 0, .ref sc, .int ss, .int sp, .int ig, .int lf, .ref rd, .ref nw, .ref tr, .ref di, .int ac, .ref kp, .ref ik]))]) hP hD hS hA rfl rfl (by decide) (by decide) (fc_runS (isC := [0]) (As := [.ref nw, .int (-1)]) (rest := []) hx hb hml hown hts hK hE hP hD hS hA rfl (by decide) (c_X8_count l D tc nw row (-1) _ (RX_K hR).1) (cwS 2 hts gX8_room_X8_count rfl rfl rfl hd_X8_count ⟨Nat.le_of_ble_eq_true rfl, Nat.le_of_ble_eq_true rfl⟩) rfl hl.1 rfl (Nat.le_of_ble_eq_true rfl) dX8_room_33 ⟨Nat.le_of_ble_eq_true rfl, Nat.le_of_ble_eq_true rfl⟩) (fun r_7 u_7 H locs hw_7 hP hD hS => ?_)
      try dsimp only at hw_7
      have hP : va_P D vwCl [(mo, .inr (8, [.int 0, .ref sc, .int ss, .int sp, .int ig, .int lf, .ref rd, .ref nw, .ref tr, .ref di, .int ac, .ref kp, .ref ik])), (nw, .inl (tc 0, 357, .inl row))] H := hP
      have hD : va_D A [(mo, .inr (8, [.int 0, .ref sc, .int ss, .int sp, .int ig, .int lf, .ref rd, .ref nw, .ref tr, .ref di, .int ac, .ref kp, .ref ik])), (nw, .inl (tc 0, 357, .inl row))] := hD
      refine lv_aload_n hx hb dX8_room_36 rfl (lv_at hl 0 rfl) ?_
      refine va_get (D := D) (ci := 8) (v := .ref nw) (C := RX8) (T := TX8) (N := 13) hx hb hts iX8_room_X8 hown hK hP 0 rfl rfl 7 (by decide) (hts (.fieldLink RX8 16 "FrameCardModel" "now" "[I") (by decide +kernel)) (fun _ h9 => h9) rfl dX8_room_37 ?_
      refine lv_bipush (v := (-2)) hx hb dX8_room_40 (by decide) ?_
      refine fc_goi (isC := [1]) (isR := [0]) (wc := [(nw, .inl (tc 0, 357, .inl row))]) (wr := [(mo, .inr (8, [.int 0, .ref sc, .int ss, .int sp, .int ig, .int lf, .ref rd, .ref nw, .ref tr, .ref di, .int ac, .ref kp, .ref ik]))]) hP hD hS hA rfl rfl (by decide) (by decide) (fc_runS (isC := [1]) (As := [.ref nw, .int (-2)]) (rest := [.int r_7]) hx hb hml hown hts hK hE hP hD hS hA rfl (by decide) (c_X8_count l D tc nw row (-2) _ (RX_K hR).1) (cwS 2 hts gX8_room_X8_count rfl rfl rfl hd_X8_count ⟨Nat.le_of_ble_eq_true rfl, Nat.le_of_ble_eq_true rfl⟩) rfl hl.1 rfl (Nat.le_of_ble_eq_true rfl) dX8_room_42 ⟨Nat.le_of_ble_eq_true rfl, Nat.le_of_ble_eq_true rfl⟩) (fun r_8 u_8 H locs hw_8 hP hD hS => ?_)
      try dsimp only at hw_8
      have hP : va_P D vwCl [(mo, .inr (8, [.int 0, .ref sc, .int ss, .int sp, .int ig, .int lf, .ref rd, .ref nw, .ref tr, .ref di, .int ac, .ref kp, .ref ik])), (nw, .inl (tc 0, 357, .inl row))] H := hP
      have hD : va_D A [(mo, .inr (8, [.int 0, .ref sc, .int ss, .int sp, .int ig, .int lf, .ref rd, .ref nw, .ref tr, .ref di, .int ac, .ref kp, .ref ik])), (nw, .inl (tc 0, 357, .inl row))] := hD
      refine lv_iadd hx hb dX8_room_45 ?_
      refine lv_iload_n hx hb dX8_room_46 rfl (lv_at hl 1 rfl) ?_
      refine fc_goi (isC := []) (isR := [0, 1]) (wc := []) (wr := [(mo, .inr (8, [.int 0, .ref sc, .int ss, .int sp, .int ig, .int lf, .ref rd, .ref nw, .ref tr, .ref di, .int ac, .ref kp, .ref ik])), (nw, .inl (tc 0, 357, .inl row))]) hP hD hS hA rfl rfl (by decide) (by decide) (fc_runS (isC := []) (As := [.int p0]) (rest := [.int (r_7 + r_8)]) hx hb hml hown hts hK hE hP hD hS hA rfl (by decide) (c_X8_sizeOf l D tc p0 _ ) (cwS 1 hts gX8_room_X8_sizeOf rfl rfl rfl hd_X8_sizeOf ⟨Nat.le_of_ble_eq_true rfl, Nat.le_of_ble_eq_true rfl⟩) rfl hl.1 rfl (Nat.le_of_ble_eq_true rfl) dX8_room_47 ⟨Nat.le_of_ble_eq_true rfl, Nat.le_of_ble_eq_true rfl⟩) (fun r_9 u_9 H locs hw_9 hP hD hS => ?_)
      try dsimp only at hw_9
      have hP : va_P D vwCl [(mo, .inr (8, [.int 0, .ref sc, .int ss, .int sp, .int ig, .int lf, .ref rd, .ref nw, .ref tr, .ref di, .int ac, .ref kp, .ref ik])), (nw, .inl (tc 0, 357, .inl row))] H := hP
      have hD : va_D A [(mo, .inr (8, [.int 0, .ref sc, .int ss, .int sp, .int ig, .int lf, .ref rd, .ref nw, .ref tr, .ref di, .int ac, .ref kp, .ref ik])), (nw, .inl (tc 0, 357, .inl row))] := hD
      refine lv_idiv hx hb dX8_room_50 (fx_room8 (by assumption) (by omega)) ?_
      exact hret _ _ ((r_7 + r_8) / r_9) 0 _ _ (by rw [mX8_room]; (try dsimp only); rw [hw_1]; (try dsimp only); rw [if_neg c_2]; rw [hw_7]; (try dsimp only); rw [hw_8]; (try dsimp only); rw [hw_9]; (try dsimp only); (first | done | rfl)) (hP.sub [0, 1] rfl) (hD.sub [0, 1] (by decide) rfl) hS dX8_room_51
    · exact absurd (by decide) c_6
--# X8_leastPace
noncomputable def mX8_leastPace_S7 (ss : Int32) (sp : Int32) (ig : Int32) (lf : Int32) (ac : Int32) (row : Nat → Int32) (ih_7 : Int32 → (Nat → Int32) → Int32 × Int32 × (Nat → Int32)) (x1h7 : Int32) (trowh7 : Nat → Int32) : Int32 × Int32 × (Nat → Int32) :=
  if 8 < x1h7 then
    ((-1), 0, trowh7)
  else
    let trow_2 := mX8_tryIt 0 ss sp ig lf ac row trowh7
    let trow_3 := (upd trow_2 (0 : Int32).toNatClampNeg x1h7)
    match mX8_tick trow_3 with
    | (r_5, row_5) =>
      match mX8_tick row_5 with
      | (r_7, row_7) =>
        match mX8_tick row_7 with
        | (r_9, row_9) =>
          match mX8_tick row_9 with
          | (r_11, row_11) =>
            match mX8_tick row_11 with
            | (r_13, row_13) =>
              if (row (17 : Int32).toNatClampNeg) = 0 then
                (x1h7, 0, row_13)
              else
                if (row_13 (17 : Int32).toNatClampNeg) = 0 then
                  (x1h7, 0, row_13)
                else
                  ih_7 (x1h7 + 1) row_13
noncomputable def mX8_leastPace_L7 (ss : Int32) (sp : Int32) (ig : Int32) (lf : Int32) (ac : Int32) (row : Nat → Int32) (k : Nat) : Int32 → (Nat → Int32) → Int32 × Int32 × (Nat → Int32) := Nat.rec (motive := fun _ => Int32 → (Nat → Int32) → Int32 × Int32 × (Nat → Int32)) (fun x1h7 trowh7 => (0, 0, trowh7)) (fun _ ih => mX8_leastPace_S7 ss sp ig lf ac row ih) k
theorem mX8_leastPace_L7_z (ss : Int32) (sp : Int32) (ig : Int32) (lf : Int32) (ac : Int32) (row : Nat → Int32) (x1h7 : Int32) (trowh7 : Nat → Int32) : mX8_leastPace_L7 ss sp ig lf ac row 0 x1h7 trowh7 = (0, 0, trowh7) := rfl
theorem mX8_leastPace_L7_s (ss : Int32) (sp : Int32) (ig : Int32) (lf : Int32) (ac : Int32) (row : Nat → Int32) (k : Nat) (x1h7 : Int32) (trowh7 : Nat → Int32) : mX8_leastPace_L7 ss sp ig lf ac row (k + 1) x1h7 trowh7 = mX8_leastPace_S7 ss sp ig lf ac row (mX8_leastPace_L7 ss sp ig lf ac row k) x1h7 trowh7 := rfl
noncomputable def mX8_leastPace (rf : Int32) (ss : Int32) (sp : Int32) (ig : Int32) (lf : Int32) (ac : Int32) (row : Nat → Int32) (trow : Nat → Int32) : Int32 × Int32 × (Nat → Int32) :=
  mX8_leastPace_L7 ss sp ig lf ac row 10 0 trow
set_option maxRecDepth 20000 in
theorem iX8_leastPace_X8 : ∀ w ∈ wsX80, w ∈ wsX8_leastPace := by decide +kernel
abbrev rmX8_leastPace : Room := { frames := 4, cells := 0, slots := 0, locals := 91 }
set_option maxHeartbeats 4000000 in
set_option maxRecDepth 100000 in
theorem c_X8_leastPace (l : Launch) (D : va_G) (tc : Nat → ClassId) (mo : Nat) (sc : Nat) (rd : Nat) (nw : Nat) (tr : Nat) (di : Nat) (kp : Nat) (ik : Nat) (rf : Int32) (ss : Int32) (sp : Int32) (ig : Int32) (lf : Int32) (ac : Int32) (row : Nat → Int32) (trow : Nat → Int32) (sz : Nat) (hR : RXn 10 row) : Met l yX8_leastPace wsX8_leastPace rmX8_leastPace (va_Pc [.ref mo] (fcB D tc [(mo, .inr (8, [.int rf, .ref sc, .int ss, .int sp, .int ig, .int lf, .ref rd, .ref nw, .ref tr, .ref di, .int ac, .ref kp, .ref ik])), (nw, .inl (tc 0, 357, .inl row)), (tr, .inl (tc 0, 357, .inl trow))] sz)) (va_Qi (fun (r : Int32) (u : Int32 × (Nat → Int32)) => mX8_leastPace rf ss sp ig lf ac row trow = (r, u)) (fun u t => fcO D (va_A [(mo, .inr (8, [.int rf, .ref sc, .int ss, .int sp, .int ig, .int lf, .ref rd, .ref nw, .ref tr, .ref di, .int ac, .ref kp, .ref ik])), (nw, .inl (tc 0, 357, .inl row)), (tr, .inl (tc 0, 357, .inl trow))] sz) ((fun (u : Int32 × (Nat → Int32)) => [(mo, .inr (8, [.int (u.1), .ref sc, .int ss, .int sp, .int ig, .int lf, .ref rd, .ref nw, .ref tr, .ref di, .int ac, .ref kp, .ref ik])), (nw, .inl (tc 0, 357, .inl row)), (tr, .inl (tc 0, 357, .inl (u.2)))]) u) t) (va_A [(mo, .inr (8, [.int rf, .ref sc, .int ss, .int sp, .int ig, .int lf, .ref rd, .ref nw, .ref tr, .ref di, .int ac, .ref kp, .ref ik])), (nw, .inl (tc 0, 357, .inl row)), (tr, .inl (tc 0, 357, .inl trow))] sz)) 0 0 (va_A [(mo, .inr (8, [.int rf, .ref sc, .int ss, .int sp, .int ig, .int lf, .ref rd, .ref nw, .ref tr, .ref di, .int ac, .ref kp, .ref ik])), (nw, .inl (tc 0, 357, .inl row)), (tr, .inl (tc 0, 357, .inl trow))] sz) := by
  refine fc_ofWi (own := RX8) (cc := cX8_leastPace) (maxL := 3) (W1 := (fun (u : Int32 × (Nat → Int32)) => [(mo, .inr (8, [.int (u.1), .ref sc, .int ss, .int sp, .int ig, .int lf, .ref rd, .ref nw, .ref tr, .ref di, .int ac, .ref kp, .ref ik])), (nw, .inl (tc 0, 357, .inl row)), (tr, .inl (tc 0, 357, .inl (u.2)))])) rfl (by decide) rfl (Nat.le_of_ble_eq_true rfl) ?_
  intro p e s m args below meth c A Q hx hb hml hown hts hK hE hP hD hS hA hin hret ls hl
  have hl : lv_has ls 3 [(0, .ref mo)] := hl
  refine lv_aload_n hx hb dX8_leastPace_0 rfl (lv_at hl 0 rfl) ?_
  refine lv_iconst (v := 0) hx hb dX8_leastPace_1 (by decide) ?_
  refine va_put (D := D) (ci := 8) (v := .int 0) (ty := .int) (C := RX8) (T := TX8) (N := 13) hx hb hts iX8_leastPace_X8 tyX8 tyX8_ok nmX8 hown hK hP hD hS 0 rfl rfl 0 (by decide) (hts (.fieldLink RX8 36 "FrameCardModel" "refusal" "I") (by decide +kernel)) (fun _ h9 => h9) rfl (by decide +kernel) rfl rfl (Nat.le_of_ble_eq_true rfl) dX8_leastPace_2 (fun H locs hP hD hS => ?_)
  have hP : va_P D vwCl [(mo, .inr (8, [.int 0, .ref sc, .int ss, .int sp, .int ig, .int lf, .ref rd, .ref nw, .ref tr, .ref di, .int ac, .ref kp, .ref ik])), (nw, .inl (tc 0, 357, .inl row)), (tr, .inl (tc 0, 357, .inl trow))] H := hP
  have hD : va_D A [(mo, .inr (8, [.int 0, .ref sc, .int ss, .int sp, .int ig, .int lf, .ref rd, .ref nw, .ref tr, .ref di, .int ac, .ref kp, .ref ik])), (nw, .inl (tc 0, 357, .inl row)), (tr, .inl (tc 0, 357, .inl trow))] := hD
  refine lv_iconst (v := 0) hx hb dX8_leastPace_5 (by decide) ?_
  refine lv_istore_n (lv' := [(1, .int 0), (0, .ref mo)]) hx hb dX8_leastPace_6 rfl hl (by decide) rfl (fun ls hl => ?_)
  have loop_7 : ∀ (k_7 : Nat) (i_7 : Nat) (x1h7 : Int32) (trowh7 : Nat → Int32) (hb_7 : x1h7 = nI i_7) (hm_7 : i_7 ≤ 9 ∧ 9 < i_7 + k_7) (hI_7 : mX8_leastPace rf ss sp ig lf ac row trow = mX8_leastPace_L7 ss sp ig lf ac row k_7 x1h7 trowh7) (H : Heap) (locs : List Loc), va_P D vwCl [(mo, .inr (8, [.int 0, .ref sc, .int ss, .int sp, .int ig, .int lf, .ref rd, .ref nw, .ref tr, .ref di, .int ac, .ref kp, .ref ik])), (nw, .inl (tc 0, 357, .inl row)), (tr, .inl (tc 0, 357, .inl trowh7))] H → va_D A [(mo, .inr (8, [.int 0, .ref sc, .int ss, .int sp, .int ig, .int lf, .ref rd, .ref nw, .ref tr, .ref di, .int ac, .ref kp, .ref ik])), (nw, .inl (tc 0, 357, .inl row)), (tr, .inl (tc 0, 357, .inl trowh7))] → va_S A s.heap H locs → ∀ ls : Array Slot, lv_has ls 3 [(1, .int x1h7), (0, .ref mo)] → W p l e rmX8_leastPace s m args below meth c H locs 0 0 Q (F0 m 7 ls []) := by
    intro k_7
    induction k_7 with
    | zero =>
      intro i_7 x1h7 trowh7 hb_7 hm_7 hI_7 H locs hP hD hS ls hl
      exact absurd hm_7 (by omega)
    | succ k_7 ih_7 =>
      intro i_7 x1h7 trowh7 hb_7 hm_7 hI_7 H locs hP hD hS ls hl
      have zz_7 := fc_nI (n := i_7) (by omega)
      rw [← hb_7] at zz_7
      refine lv_iload_n hx hb dX8_leastPace_7 rfl (lv_at hl 0 rfl) ?_
      refine lv_bipush (v := 8) hx hb dX8_leastPace_8 (by decide) ?_
      refine lv_icmp_gt (tgt := 73) hx hb dX8_leastPace_10 (by decide) (fun c_1 => ?_) (fun c_1 => ?_)
      · refine lv_iconst (v := (-1)) hx hb dX8_leastPace_73 (by decide) ?_
        exact hret _ _ (-1) (0, trowh7) _ _ (by rw [hI_7, mX8_leastPace_L7_s, mX8_leastPace_S7]; (try dsimp only); rw [if_pos c_1]; (first | done | rfl)) (hP.sub [0, 1, 2] rfl) (hD.sub [0, 1, 2] (by decide) rfl) hS dX8_leastPace_74
      · refine lv_aload_n hx hb dX8_leastPace_13 rfl (lv_at hl 1 rfl) ?_
        refine fc_gov (isC := [0, 1, 2]) (isR := []) (wc := [(mo, .inr (8, [.int 0, .ref sc, .int ss, .int sp, .int ig, .int lf, .ref rd, .ref nw, .ref tr, .ref di, .int ac, .ref kp, .ref ik])), (nw, .inl (tc 0, 357, .inl row)), (tr, .inl (tc 0, 357, .inl trowh7))]) (wr := []) hP hD hS hA rfl rfl (by decide) (by decide) (fc_runV (isC := [0, 1, 2]) (As := []) (rest := []) hx hb hml hown hts hK hE hP hD hS hA rfl (by decide) (c_X8_tryIt l D tc mo sc rd nw tr di kp ik 0 ss sp ig lf ac row trowh7 _ ) (cwV 0 hts gX8_leastPace_X8_tryIt rfl rfl rfl hd_X8_tryIt ⟨Nat.le_of_ble_eq_true rfl, Nat.le_of_ble_eq_true rfl⟩) (ci := 8) rfl rfl rfl rfl hl.1 rfl (Nat.le_of_ble_eq_true rfl) dX8_leastPace_14 ⟨Nat.le_of_ble_eq_true rfl, Nat.le_of_ble_eq_true rfl⟩) (fun u_2 H locs hw_2 hP hD hS => ?_)
        obtain ⟨trow_2, rfl⟩ : ∃ z, z = u_2 := ⟨_, rfl⟩
        try dsimp only at hw_2
        have hP : va_P D vwCl [(mo, .inr (8, [.int 0, .ref sc, .int ss, .int sp, .int ig, .int lf, .ref rd, .ref nw, .ref tr, .ref di, .int ac, .ref kp, .ref ik])), (nw, .inl (tc 0, 357, .inl row)), (tr, .inl (tc 0, 357, .inl trow_2))] H := hP
        have hD : va_D A [(mo, .inr (8, [.int 0, .ref sc, .int ss, .int sp, .int ig, .int lf, .ref rd, .ref nw, .ref tr, .ref di, .int ac, .ref kp, .ref ik])), (nw, .inl (tc 0, 357, .inl row)), (tr, .inl (tc 0, 357, .inl trow_2))] := hD
        have hx1 := (RX_tryIt hw_2 hR)
        refine lv_aload_n hx hb dX8_leastPace_17 rfl (lv_at hl 1 rfl) ?_
        refine va_get (D := D) (ci := 8) (v := .ref tr) (C := RX8) (T := TX8) (N := 13) hx hb hts iX8_leastPace_X8 hown hK hP 0 rfl rfl 8 (by decide) (hts (.fieldLink RX8 19 "FrameCardModel" "trial" "[I") (by decide +kernel)) (fun _ h9 => h9) rfl dX8_leastPace_18 ?_
        refine lv_iconst (v := 0) hx hb dX8_leastPace_21 (by decide) ?_
        refine lv_iload_n hx hb dX8_leastPace_22 rfl (lv_at hl 0 rfl) ?_
        refine va_iast (D := D) hx hb hK hP hD hS 2 0 rfl rfl (vp_in_iff.mpr (by decide)) dX8_leastPace_23 (fun H locs hP hD hS => ?_)
        have hP : va_P D vwCl [(mo, .inr (8, [.int 0, .ref sc, .int ss, .int sp, .int ig, .int lf, .ref rd, .ref nw, .ref tr, .ref di, .int ac, .ref kp, .ref ik])), (nw, .inl (tc 0, 357, .inl row)), (tr, .inl (tc 0, 357, .inl (upd trow_2 (0 : Int32).toNatClampNeg x1h7)))] H := hP
        have hD : va_D A [(mo, .inr (8, [.int 0, .ref sc, .int ss, .int sp, .int ig, .int lf, .ref rd, .ref nw, .ref tr, .ref di, .int ac, .ref kp, .ref ik])), (nw, .inl (tc 0, 357, .inl row)), (tr, .inl (tc 0, 357, .inl (upd trow_2 (0 : Int32).toNatClampNeg x1h7)))] := hD
        obtain ⟨trow_3, hw_3⟩ : ∃ z, (upd trow_2 (0 : Int32).toNatClampNeg x1h7) = z := ⟨_, rfl⟩
        rw [hw_3] at hP hD
        have l8 : (8 : Int32).toInt = 8 := (by decide)
        have q8 := fx_nlt (by assumption : ¬ 8 < x1h7)
        have hY := (hw_3 ▸ RX_set hx1 (by decide) (fun _ => by omega) : RXn 10 trow_3)
        refine lv_iconst (v := 0) hx hb dX8_leastPace_24 (by decide) ?_
        refine lv_istore_n (lv' := [(2, .int 0), (1, .int x1h7), (0, .ref mo)]) hx hb dX8_leastPace_25 rfl hl (by decide) rfl (fun ls hl => ?_)
        refine lv_iload_n hx hb dX8_leastPace_26 rfl (lv_at hl 0 rfl) ?_
        refine lv_iconst (v := 5) hx hb dX8_leastPace_27 (by decide) ?_
        refine lv_icmp_ge (tgt := 45) hx hb dX8_leastPace_28 (by decide) (fun c_4 => ?_) (fun c_4 => ?_)
        · exact absurd c_4 (by decide)
        · refine lv_aload_n hx hb dX8_leastPace_31 rfl (lv_at hl 2 rfl) ?_
          refine va_get (D := D) (ci := 8) (v := .ref tr) (C := RX8) (T := TX8) (N := 13) hx hb hts iX8_leastPace_X8 hown hK hP 0 rfl rfl 8 (by decide) (hts (.fieldLink RX8 19 "FrameCardModel" "trial" "[I") (by decide +kernel)) (fun _ h9 => h9) rfl dX8_leastPace_32 ?_
          refine fc_goi (isC := [2]) (isR := [0, 1]) (wc := [(tr, .inl (tc 0, 357, .inl trow_3))]) (wr := [(mo, .inr (8, [.int 0, .ref sc, .int ss, .int sp, .int ig, .int lf, .ref rd, .ref nw, .ref tr, .ref di, .int ac, .ref kp, .ref ik])), (nw, .inl (tc 0, 357, .inl row))]) hP hD hS hA rfl rfl (by decide) (by decide) (fc_runS (isC := [2]) (As := [.ref tr]) (rest := []) hx hb hml hown hts hK hE hP hD hS hA rfl (by decide) (c_X8_tick l D tc tr trow_3 _ (hY.mono (by omega))) (cwS 1 hts gX8_leastPace_X8_tick rfl rfl rfl hd_X8_tick ⟨Nat.le_of_ble_eq_true rfl, Nat.le_of_ble_eq_true rfl⟩) rfl hl.1 rfl (Nat.le_of_ble_eq_true rfl) dX8_leastPace_35 ⟨Nat.le_of_ble_eq_true rfl, Nat.le_of_ble_eq_true rfl⟩) (fun r_5 u_5 H locs hw_5 hP hD hS => ?_)
          obtain ⟨row_5, rfl⟩ : ∃ z, z = u_5 := ⟨_, rfl⟩
          try dsimp only at hw_5
          have hP : va_P D vwCl [(mo, .inr (8, [.int 0, .ref sc, .int ss, .int sp, .int ig, .int lf, .ref rd, .ref nw, .ref tr, .ref di, .int ac, .ref kp, .ref ik])), (nw, .inl (tc 0, 357, .inl row)), (tr, .inl (tc 0, 357, .inl row_5))] H := hP
          have hD : va_D A [(mo, .inr (8, [.int 0, .ref sc, .int ss, .int sp, .int ig, .int lf, .ref rd, .ref nw, .ref tr, .ref di, .int ac, .ref kp, .ref ik])), (nw, .inl (tc 0, 357, .inl row)), (tr, .inl (tc 0, 357, .inl row_5))] := hD
          have hY := (RX_tick hY hw_5)
          refine lv_pop hx hb dX8_leastPace_38 rfl ?_
          refine lv_iinc (v := 1) (lv' := [(2, .int 1), (1, .int x1h7), (0, .ref mo)]) hx hb dX8_leastPace_39 hl (k := 0) rfl rfl (by decide) rfl (fun ls hl => ?_)
          refine lv_goto (tgt := 26) hx hb dX8_leastPace_42 (by decide) ?_
          refine lv_iload_n hx hb dX8_leastPace_26 rfl (lv_at hl 0 rfl) ?_
          refine lv_iconst (v := 5) hx hb dX8_leastPace_27 (by decide) ?_
          refine lv_icmp_ge (tgt := 45) hx hb dX8_leastPace_28 (by decide) (fun c_6 => ?_) (fun c_6 => ?_)
          · exact absurd c_6 (by decide)
          · refine lv_aload_n hx hb dX8_leastPace_31 rfl (lv_at hl 2 rfl) ?_
            refine va_get (D := D) (ci := 8) (v := .ref tr) (C := RX8) (T := TX8) (N := 13) hx hb hts iX8_leastPace_X8 hown hK hP 0 rfl rfl 8 (by decide) (hts (.fieldLink RX8 19 "FrameCardModel" "trial" "[I") (by decide +kernel)) (fun _ h9 => h9) rfl dX8_leastPace_32 ?_
            refine fc_goi (isC := [2]) (isR := [0, 1]) (wc := [(tr, .inl (tc 0, 357, .inl row_5))]) (wr := [(mo, .inr (8, [.int 0, .ref sc, .int ss, .int sp, .int ig, .int lf, .ref rd, .ref nw, .ref tr, .ref di, .int ac, .ref kp, .ref ik])), (nw, .inl (tc 0, 357, .inl row))]) hP hD hS hA rfl rfl (by decide) (by decide) (fc_runS (isC := [2]) (As := [.ref tr]) (rest := []) hx hb hml hown hts hK hE hP hD hS hA rfl (by decide) (c_X8_tick l D tc tr row_5 _ (hY.mono (by omega))) (cwS 1 hts gX8_leastPace_X8_tick rfl rfl rfl hd_X8_tick ⟨Nat.le_of_ble_eq_true rfl, Nat.le_of_ble_eq_true rfl⟩) rfl hl.1 rfl (Nat.le_of_ble_eq_true rfl) dX8_leastPace_35 ⟨Nat.le_of_ble_eq_true rfl, Nat.le_of_ble_eq_true rfl⟩) (fun r_7 u_7 H locs hw_7 hP hD hS => ?_)
            obtain ⟨row_7, rfl⟩ : ∃ z, z = u_7 := ⟨_, rfl⟩
            try dsimp only at hw_7
            have hP : va_P D vwCl [(mo, .inr (8, [.int 0, .ref sc, .int ss, .int sp, .int ig, .int lf, .ref rd, .ref nw, .ref tr, .ref di, .int ac, .ref kp, .ref ik])), (nw, .inl (tc 0, 357, .inl row)), (tr, .inl (tc 0, 357, .inl row_7))] H := hP
            have hD : va_D A [(mo, .inr (8, [.int 0, .ref sc, .int ss, .int sp, .int ig, .int lf, .ref rd, .ref nw, .ref tr, .ref di, .int ac, .ref kp, .ref ik])), (nw, .inl (tc 0, 357, .inl row)), (tr, .inl (tc 0, 357, .inl row_7))] := hD
            have hY := (RX_tick hY hw_7)
            refine lv_pop hx hb dX8_leastPace_38 rfl ?_
            refine lv_iinc (v := 2) (lv' := [(2, .int 2), (1, .int x1h7), (0, .ref mo)]) hx hb dX8_leastPace_39 hl (k := 0) rfl rfl (by decide) rfl (fun ls hl => ?_)
            refine lv_goto (tgt := 26) hx hb dX8_leastPace_42 (by decide) ?_
            refine lv_iload_n hx hb dX8_leastPace_26 rfl (lv_at hl 0 rfl) ?_
            refine lv_iconst (v := 5) hx hb dX8_leastPace_27 (by decide) ?_
            refine lv_icmp_ge (tgt := 45) hx hb dX8_leastPace_28 (by decide) (fun c_8 => ?_) (fun c_8 => ?_)
            · exact absurd c_8 (by decide)
            · refine lv_aload_n hx hb dX8_leastPace_31 rfl (lv_at hl 2 rfl) ?_
              refine va_get (D := D) (ci := 8) (v := .ref tr) (C := RX8) (T := TX8) (N := 13) hx hb hts iX8_leastPace_X8 hown hK hP 0 rfl rfl 8 (by decide) (hts (.fieldLink RX8 19 "FrameCardModel" "trial" "[I") (by decide +kernel)) (fun _ h9 => h9) rfl dX8_leastPace_32 ?_
              refine fc_goi (isC := [2]) (isR := [0, 1]) (wc := [(tr, .inl (tc 0, 357, .inl row_7))]) (wr := [(mo, .inr (8, [.int 0, .ref sc, .int ss, .int sp, .int ig, .int lf, .ref rd, .ref nw, .ref tr, .ref di, .int ac, .ref kp, .ref ik])), (nw, .inl (tc 0, 357, .inl row))]) hP hD hS hA rfl rfl (by decide) (by decide) (fc_runS (isC := [2]) (As := [.ref tr]) (rest := []) hx hb hml hown hts hK hE hP hD hS hA rfl (by decide) (c_X8_tick l D tc tr row_7 _ (hY.mono (by omega))) (cwS 1 hts gX8_leastPace_X8_tick rfl rfl rfl hd_X8_tick ⟨Nat.le_of_ble_eq_true rfl, Nat.le_of_ble_eq_true rfl⟩) rfl hl.1 rfl (Nat.le_of_ble_eq_true rfl) dX8_leastPace_35 ⟨Nat.le_of_ble_eq_true rfl, Nat.le_of_ble_eq_true rfl⟩) (fun r_9 u_9 H locs hw_9 hP hD hS => ?_)
              obtain ⟨row_9, rfl⟩ : ∃ z, z = u_9 := ⟨_, rfl⟩
              try dsimp only at hw_9
              have hP : va_P D vwCl [(mo, .inr (8, [.int 0, .ref sc, .int ss, .int sp, .int ig, .int lf, .ref rd, .ref nw, .ref tr, .ref di, .int ac, .ref kp, .ref ik])), (nw, .inl (tc 0, 357, .inl row)), (tr, .inl (tc 0, 357, .inl row_9))] H := hP
              have hD : va_D A [(mo, .inr (8, [.int 0, .ref sc, .int ss, .int sp, .int ig, .int lf, .ref rd, .ref nw, .ref tr, .ref di, .int ac, .ref kp, .ref ik])), (nw, .inl (tc 0, 357, .inl row)), (tr, .inl (tc 0, 357, .inl row_9))] := hD
              have hY := (RX_tick hY hw_9)
              refine lv_pop hx hb dX8_leastPace_38 rfl ?_
              refine lv_iinc (v := 3) (lv' := [(2, .int 3), (1, .int x1h7), (0, .ref mo)]) hx hb dX8_leastPace_39 hl (k := 0) rfl rfl (by decide) rfl (fun ls hl => ?_)
              refine lv_goto (tgt := 26) hx hb dX8_leastPace_42 (by decide) ?_
              refine lv_iload_n hx hb dX8_leastPace_26 rfl (lv_at hl 0 rfl) ?_
              refine lv_iconst (v := 5) hx hb dX8_leastPace_27 (by decide) ?_
              refine lv_icmp_ge (tgt := 45) hx hb dX8_leastPace_28 (by decide) (fun c_10 => ?_) (fun c_10 => ?_)
              · exact absurd c_10 (by decide)
              · refine lv_aload_n hx hb dX8_leastPace_31 rfl (lv_at hl 2 rfl) ?_
                refine va_get (D := D) (ci := 8) (v := .ref tr) (C := RX8) (T := TX8) (N := 13) hx hb hts iX8_leastPace_X8 hown hK hP 0 rfl rfl 8 (by decide) (hts (.fieldLink RX8 19 "FrameCardModel" "trial" "[I") (by decide +kernel)) (fun _ h9 => h9) rfl dX8_leastPace_32 ?_
                refine fc_goi (isC := [2]) (isR := [0, 1]) (wc := [(tr, .inl (tc 0, 357, .inl row_9))]) (wr := [(mo, .inr (8, [.int 0, .ref sc, .int ss, .int sp, .int ig, .int lf, .ref rd, .ref nw, .ref tr, .ref di, .int ac, .ref kp, .ref ik])), (nw, .inl (tc 0, 357, .inl row))]) hP hD hS hA rfl rfl (by decide) (by decide) (fc_runS (isC := [2]) (As := [.ref tr]) (rest := []) hx hb hml hown hts hK hE hP hD hS hA rfl (by decide) (c_X8_tick l D tc tr row_9 _ (hY.mono (by omega))) (cwS 1 hts gX8_leastPace_X8_tick rfl rfl rfl hd_X8_tick ⟨Nat.le_of_ble_eq_true rfl, Nat.le_of_ble_eq_true rfl⟩) rfl hl.1 rfl (Nat.le_of_ble_eq_true rfl) dX8_leastPace_35 ⟨Nat.le_of_ble_eq_true rfl, Nat.le_of_ble_eq_true rfl⟩) (fun r_11 u_11 H locs hw_11 hP hD hS => ?_)
                obtain ⟨row_11, rfl⟩ : ∃ z, z = u_11 := ⟨_, rfl⟩
                try dsimp only at hw_11
                have hP : va_P D vwCl [(mo, .inr (8, [.int 0, .ref sc, .int ss, .int sp, .int ig, .int lf, .ref rd, .ref nw, .ref tr, .ref di, .int ac, .ref kp, .ref ik])), (nw, .inl (tc 0, 357, .inl row)), (tr, .inl (tc 0, 357, .inl row_11))] H := hP
                have hD : va_D A [(mo, .inr (8, [.int 0, .ref sc, .int ss, .int sp, .int ig, .int lf, .ref rd, .ref nw, .ref tr, .ref di, .int ac, .ref kp, .ref ik])), (nw, .inl (tc 0, 357, .inl row)), (tr, .inl (tc 0, 357, .inl row_11))] := hD
                have hY := (RX_tick hY hw_11)
                refine lv_pop hx hb dX8_leastPace_38 rfl ?_
                refine lv_iinc (v := 4) (lv' := [(2, .int 4), (1, .int x1h7), (0, .ref mo)]) hx hb dX8_leastPace_39 hl (k := 0) rfl rfl (by decide) rfl (fun ls hl => ?_)
                refine lv_goto (tgt := 26) hx hb dX8_leastPace_42 (by decide) ?_
                refine lv_iload_n hx hb dX8_leastPace_26 rfl (lv_at hl 0 rfl) ?_
                refine lv_iconst (v := 5) hx hb dX8_leastPace_27 (by decide) ?_
                refine lv_icmp_ge (tgt := 45) hx hb dX8_leastPace_28 (by decide) (fun c_12 => ?_) (fun c_12 => ?_)
                · exact absurd c_12 (by decide)
                · refine lv_aload_n hx hb dX8_leastPace_31 rfl (lv_at hl 2 rfl) ?_
                  refine va_get (D := D) (ci := 8) (v := .ref tr) (C := RX8) (T := TX8) (N := 13) hx hb hts iX8_leastPace_X8 hown hK hP 0 rfl rfl 8 (by decide) (hts (.fieldLink RX8 19 "FrameCardModel" "trial" "[I") (by decide +kernel)) (fun _ h9 => h9) rfl dX8_leastPace_32 ?_
                  refine fc_goi (isC := [2]) (isR := [0, 1]) (wc := [(tr, .inl (tc 0, 357, .inl row_11))]) (wr := [(mo, .inr (8, [.int 0, .ref sc, .int ss, .int sp, .int ig, .int lf, .ref rd, .ref nw, .ref tr, .ref di, .int ac, .ref kp, .ref ik])), (nw, .inl (tc 0, 357, .inl row))]) hP hD hS hA rfl rfl (by decide) (by decide) (fc_runS (isC := [2]) (As := [.ref tr]) (rest := []) hx hb hml hown hts hK hE hP hD hS hA rfl (by decide) (c_X8_tick l D tc tr row_11 _ (hY.mono (by omega))) (cwS 1 hts gX8_leastPace_X8_tick rfl rfl rfl hd_X8_tick ⟨Nat.le_of_ble_eq_true rfl, Nat.le_of_ble_eq_true rfl⟩) rfl hl.1 rfl (Nat.le_of_ble_eq_true rfl) dX8_leastPace_35 ⟨Nat.le_of_ble_eq_true rfl, Nat.le_of_ble_eq_true rfl⟩) (fun r_13 u_13 H locs hw_13 hP hD hS => ?_)
                  obtain ⟨row_13, rfl⟩ : ∃ z, z = u_13 := ⟨_, rfl⟩
                  try dsimp only at hw_13
                  have hP : va_P D vwCl [(mo, .inr (8, [.int 0, .ref sc, .int ss, .int sp, .int ig, .int lf, .ref rd, .ref nw, .ref tr, .ref di, .int ac, .ref kp, .ref ik])), (nw, .inl (tc 0, 357, .inl row)), (tr, .inl (tc 0, 357, .inl row_13))] H := hP
                  have hD : va_D A [(mo, .inr (8, [.int 0, .ref sc, .int ss, .int sp, .int ig, .int lf, .ref rd, .ref nw, .ref tr, .ref di, .int ac, .ref kp, .ref ik])), (nw, .inl (tc 0, 357, .inl row)), (tr, .inl (tc 0, 357, .inl row_13))] := hD
                  have hY := (RX_tick hY hw_13)
                  refine lv_pop hx hb dX8_leastPace_38 rfl ?_
                  refine lv_iinc (v := 5) (lv' := [(2, .int 5), (1, .int x1h7), (0, .ref mo)]) hx hb dX8_leastPace_39 hl (k := 0) rfl rfl (by decide) rfl (fun ls hl => ?_)
                  refine lv_goto (tgt := 26) hx hb dX8_leastPace_42 (by decide) ?_
                  refine lv_iload_n hx hb dX8_leastPace_26 rfl (lv_at hl 0 rfl) ?_
                  refine lv_iconst (v := 5) hx hb dX8_leastPace_27 (by decide) ?_
                  refine lv_icmp_ge (tgt := 45) hx hb dX8_leastPace_28 (by decide) (fun c_14 => ?_) (fun c_14 => ?_)
                  · refine lv_aload_n hx hb dX8_leastPace_45 rfl (lv_at hl 2 rfl) ?_
                    refine va_get (D := D) (ci := 8) (v := .ref nw) (C := RX8) (T := TX8) (N := 13) hx hb hts iX8_leastPace_X8 hown hK hP 0 rfl rfl 7 (by decide) (hts (.fieldLink RX8 16 "FrameCardModel" "now" "[I") (by decide +kernel)) (fun _ h9 => h9) rfl dX8_leastPace_46 ?_
                    refine lv_bipush (v := 17) hx hb dX8_leastPace_49 (by decide) ?_
                    refine va_iald (D := D) hx hb hK hP 1 0 rfl rfl (vp_in_iff.mpr (by decide)) dX8_leastPace_51 ?_
                    refine lv_if_eq (tgt := 65) hx hb dX8_leastPace_52 (by decide) (fun c_15 => ?_) (fun c_15 => ?_)
                    · refine lv_iload_n hx hb dX8_leastPace_65 rfl (lv_at hl 1 rfl) ?_
                      exact hret _ _ (x1h7) (0, row_13) _ _ (by rw [hI_7, mX8_leastPace_L7_s, mX8_leastPace_S7]; (try dsimp only); rw [if_neg c_1]; rw [hw_2]; (try dsimp only); rw [hw_3]; (try dsimp only); rw [hw_5]; (try dsimp only); rw [hw_7]; (try dsimp only); rw [hw_9]; (try dsimp only); rw [hw_11]; (try dsimp only); rw [hw_13]; (try dsimp only); rw [if_pos c_15]; (first | done | rfl)) (hP.sub [0, 1, 2] rfl) (hD.sub [0, 1, 2] (by decide) rfl) hS dX8_leastPace_66
                    · refine lv_aload_n hx hb dX8_leastPace_55 rfl (lv_at hl 2 rfl) ?_
                      refine va_get (D := D) (ci := 8) (v := .ref tr) (C := RX8) (T := TX8) (N := 13) hx hb hts iX8_leastPace_X8 hown hK hP 0 rfl rfl 8 (by decide) (hts (.fieldLink RX8 19 "FrameCardModel" "trial" "[I") (by decide +kernel)) (fun _ h9 => h9) rfl dX8_leastPace_56 ?_
                      refine lv_bipush (v := 17) hx hb dX8_leastPace_59 (by decide) ?_
                      refine va_iald (D := D) hx hb hK hP 2 0 rfl rfl (vp_in_iff.mpr (by decide)) dX8_leastPace_61 ?_
                      refine lv_if_ne (tgt := 67) hx hb dX8_leastPace_62 (by decide) (fun c_16 => ?_) (fun c_16 => ?_)
                      · refine lv_iinc (v := (x1h7 + 1)) (lv' := [(1, .int (x1h7 + 1)), (2, .int 5), (0, .ref mo)]) hx hb dX8_leastPace_67 hl (k := 1) rfl rfl (by decide) rfl (fun ls hl => ?_)
                        refine lv_goto (tgt := 7) hx hb dX8_leastPace_70 (by decide) ?_
                        exact ih_7 (i_7 + 1) (x1h7 + 1) row_13 (by rw [hb_7]; exact nI_1 _) (by have l_0 : (0 : Int32).toInt = 0 := (by decide); have l_1 : (1 : Int32).toInt = 1 := (by decide); have l_17 : (17 : Int32).toInt = 17 := (by decide); have l_2 : (2 : Int32).toInt = 2 := (by decide); have l_3 : (3 : Int32).toInt = 3 := (by decide); have l_4 : (4 : Int32).toInt = 4 := (by decide); have l_8 : (8 : Int32).toInt = 8 := (by decide); have qc_1 := c_1; (try simp only [fc_le, fc_lt, fc_eq] at qc_1); have qc_15 := c_15; (try simp only [fc_le, fc_lt, fc_eq] at qc_15); have qc_16 := c_16; (try simp only [fc_le, fc_lt, fc_eq] at qc_16); skip; omega) (by rw [hI_7, mX8_leastPace_L7_s, mX8_leastPace_S7]; (try dsimp only); rw [if_neg c_1]; rw [hw_2]; (try dsimp only); rw [hw_3]; (try dsimp only); rw [hw_5]; (try dsimp only); rw [hw_7]; (try dsimp only); rw [hw_9]; (try dsimp only); rw [hw_11]; (try dsimp only); rw [hw_13]; (try dsimp only); rw [if_neg c_15]; rw [if_neg c_16]; (first | done | rfl)) _ _ (hP.sub [0, 1, 2] rfl) (hD.sub [0, 1, 2] (by decide) rfl) hS ls (lv_sub hl [0, 2] rfl)
                      · refine lv_iload_n hx hb dX8_leastPace_65 rfl (lv_at hl 1 rfl) ?_
                        exact hret _ _ (x1h7) (0, row_13) _ _ (by rw [hI_7, mX8_leastPace_L7_s, mX8_leastPace_S7]; (try dsimp only); rw [if_neg c_1]; rw [hw_2]; (try dsimp only); rw [hw_3]; (try dsimp only); rw [hw_5]; (try dsimp only); rw [hw_7]; (try dsimp only); rw [hw_9]; (try dsimp only); rw [hw_11]; (try dsimp only); rw [hw_13]; (try dsimp only); rw [if_neg c_15]; rw [if_pos c_16]; (first | done | rfl)) (hP.sub [0, 1, 2] rfl) (hD.sub [0, 1, 2] (by decide) rfl) hS dX8_leastPace_66
                  · exact absurd (by decide) c_14
  exact loop_7 10 0 0 trow rfl (by omega) (by rw [mX8_leastPace]; (first | done | rfl)) _ _ (hP.sub [0, 1, 2] rfl) (hD.sub [0, 1, 2] (by decide) rfl) hS ls (lv_sub hl [0, 1] rfl)
--# X8_drops
noncomputable def mX8_drops (rf : Int32) (ss : Int32) (sp : Int32) (ig : Int32) (lf : Int32) (ac : Int32) (row : Nat → Int32) (trow : Nat → Int32) (p0 : Int32) (p1 : Int32) : Int32 × Int32 × (Nat → Int32) :=
  let r_1 := mX8_isPicture p0
  if r_1 = 0 then
    (0, 1, trow)
  else
    let r_5 := mX8_isTicks p1
    if r_5 = 0 then
      (0, 1, trow)
    else
      let trow_11 := mX8_tryIt 0 ss sp ig lf ac row trow
      match mX8_shootIn trow_11 p0 with
      | (r_12, row_12) =>
        match mX8_ticksIn row_12 p1 with
        | (r_13, row_13) =>
          (((row_13 (6 : Int32).toNatClampNeg) - (row (6 : Int32).toNatClampNeg)), 0, row_13)
set_option maxRecDepth 20000 in
theorem iX8_drops_X8 : ∀ w ∈ wsX80, w ∈ wsX8_drops := by decide +kernel
abbrev rmX8_drops : Room := { frames := 5, cells := 0, slots := 0, locals := 114 }
set_option maxHeartbeats 4000000 in
set_option maxRecDepth 100000 in
theorem c_X8_drops (l : Launch) (D : va_G) (tc : Nat → ClassId) (mo : Nat) (sc : Nat) (rd : Nat) (nw : Nat) (tr : Nat) (di : Nat) (kp : Nat) (ik : Nat) (rf : Int32) (ss : Int32) (sp : Int32) (ig : Int32) (lf : Int32) (ac : Int32) (row : Nat → Int32) (trow : Nat → Int32) (p0 : Int32) (p1 : Int32) (sz : Nat) (hR : RXn 60 row) : Met l yX8_drops wsX8_drops rmX8_drops (va_Pc [.ref mo, .int p0, .int p1] (fcB D tc [(mo, .inr (8, [.int rf, .ref sc, .int ss, .int sp, .int ig, .int lf, .ref rd, .ref nw, .ref tr, .ref di, .int ac, .ref kp, .ref ik])), (nw, .inl (tc 0, 357, .inl row)), (tr, .inl (tc 0, 357, .inl trow))] sz)) (va_Qi (fun (r : Int32) (u : Int32 × (Nat → Int32)) => mX8_drops rf ss sp ig lf ac row trow p0 p1 = (r, u)) (fun u t => fcO D (va_A [(mo, .inr (8, [.int rf, .ref sc, .int ss, .int sp, .int ig, .int lf, .ref rd, .ref nw, .ref tr, .ref di, .int ac, .ref kp, .ref ik])), (nw, .inl (tc 0, 357, .inl row)), (tr, .inl (tc 0, 357, .inl trow))] sz) ((fun (u : Int32 × (Nat → Int32)) => [(mo, .inr (8, [.int (u.1), .ref sc, .int ss, .int sp, .int ig, .int lf, .ref rd, .ref nw, .ref tr, .ref di, .int ac, .ref kp, .ref ik])), (nw, .inl (tc 0, 357, .inl row)), (tr, .inl (tc 0, 357, .inl (u.2)))]) u) t) (va_A [(mo, .inr (8, [.int rf, .ref sc, .int ss, .int sp, .int ig, .int lf, .ref rd, .ref nw, .ref tr, .ref di, .int ac, .ref kp, .ref ik])), (nw, .inl (tc 0, 357, .inl row)), (tr, .inl (tc 0, 357, .inl trow))] sz)) 0 0 (va_A [(mo, .inr (8, [.int rf, .ref sc, .int ss, .int sp, .int ig, .int lf, .ref rd, .ref nw, .ref tr, .ref di, .int ac, .ref kp, .ref ik])), (nw, .inl (tc 0, 357, .inl row)), (tr, .inl (tc 0, 357, .inl trow))] sz) := by
  refine fc_ofWi (own := RX8) (cc := cX8_drops) (maxL := 3) (W1 := (fun (u : Int32 × (Nat → Int32)) => [(mo, .inr (8, [.int (u.1), .ref sc, .int ss, .int sp, .int ig, .int lf, .ref rd, .ref nw, .ref tr, .ref di, .int ac, .ref kp, .ref ik])), (nw, .inl (tc 0, 357, .inl row)), (tr, .inl (tc 0, 357, .inl (u.2)))])) rfl (by decide) rfl (Nat.le_of_ble_eq_true rfl) ?_
  intro p e s m args below meth c A Q hx hb hml hown hts hK hE hP hD hS hA hin hret ls hl
  have hl : lv_has ls 3 [(0, .ref mo), (1, .int p0), (2, .int p1)] := hl
  refine lv_aload_n hx hb dX8_drops_0 rfl (lv_at hl 0 rfl) ?_
  refine lv_iload_n hx hb dX8_drops_1 rfl (lv_at hl 1 rfl) ?_
  refine fc_goi (isC := []) (isR := [0, 1, 2]) (wc := []) (wr := [(mo, .inr (8, [.int rf, .ref sc, .int ss, .int sp, .int ig, .int lf, .ref rd, .ref nw, .ref tr, .ref di, .int ac, .ref kp, .ref ik])), (nw, .inl (tc 0, 357, .inl row)), (tr, .inl (tc 0, 357, .inl trow))]) hP hD hS hA rfl rfl (by decide) (by decide) (fc_runS (isC := []) (As := [.int p0]) (rest := [.ref mo]) hx hb hml hown hts hK hE hP hD hS hA rfl (by decide) (c_X8_isPicture l D tc p0 _ ) (cwS 1 hts gX8_drops_X8_isPicture rfl rfl rfl hd_X8_isPicture ⟨Nat.le_of_ble_eq_true rfl, Nat.le_of_ble_eq_true rfl⟩) rfl hl.1 rfl (Nat.le_of_ble_eq_true rfl) dX8_drops_2 ⟨Nat.le_of_ble_eq_true rfl, Nat.le_of_ble_eq_true rfl⟩) (fun r_1 u_1 H locs hw_1 hP hD hS => ?_)
  try dsimp only at hw_1
  have hP : va_P D vwCl [(mo, .inr (8, [.int rf, .ref sc, .int ss, .int sp, .int ig, .int lf, .ref rd, .ref nw, .ref tr, .ref di, .int ac, .ref kp, .ref ik])), (nw, .inl (tc 0, 357, .inl row)), (tr, .inl (tc 0, 357, .inl trow))] H := hP
  have hD : va_D A [(mo, .inr (8, [.int rf, .ref sc, .int ss, .int sp, .int ig, .int lf, .ref rd, .ref nw, .ref tr, .ref di, .int ac, .ref kp, .ref ik])), (nw, .inl (tc 0, 357, .inl row)), (tr, .inl (tc 0, 357, .inl trow))] := hD
  have hi_1 := fx_isPic8 hw_1
  refine lv_if_eq (tgt := 19) hx hb dX8_drops_5 (by decide) (fun c_2 => ?_) (fun c_2 => ?_)
  · refine lv_iconst (v := 1) hx hb dX8_drops_19 (by decide) ?_
    refine fc_goi (isC := [0]) (isR := [1, 2]) (wc := [(mo, .inr (8, [.int rf, .ref sc, .int ss, .int sp, .int ig, .int lf, .ref rd, .ref nw, .ref tr, .ref di, .int ac, .ref kp, .ref ik]))]) (wr := [(nw, .inl (tc 0, 357, .inl row)), (tr, .inl (tc 0, 357, .inl trow))]) hP hD hS hA rfl rfl (by decide) (by decide) (fc_runV (isC := [0]) (As := [.int 1]) (rest := []) hx hb hml hown hts hK hE hP hD hS hA rfl (by decide) (c_X8_refused l D tc mo sc rd nw tr di kp ik rf ss sp ig lf ac 1 _ ) (cwV 1 hts gX8_drops_X8_refused rfl rfl rfl hd_X8_refused ⟨Nat.le_of_ble_eq_true rfl, Nat.le_of_ble_eq_true rfl⟩) (ci := 8) rfl rfl rfl rfl hl.1 rfl (Nat.le_of_ble_eq_true rfl) dX8_drops_20 ⟨Nat.le_of_ble_eq_true rfl, Nat.le_of_ble_eq_true rfl⟩) (fun r_3 u_3 H locs hw_3 hP hD hS => ?_)
    obtain ⟨rf_3, rfl⟩ : ∃ z, z = u_3 := ⟨_, rfl⟩
    obtain ⟨z1_3, z2_3⟩ := fx_ref1 hw_3
    subst z1_3
    subst z2_3
    have hP : va_P D vwCl [(nw, .inl (tc 0, 357, .inl row)), (tr, .inl (tc 0, 357, .inl trow)), (mo, .inr (8, [.int 1, .ref sc, .int ss, .int sp, .int ig, .int lf, .ref rd, .ref nw, .ref tr, .ref di, .int ac, .ref kp, .ref ik]))] H := hP
    have hD : va_D A [(nw, .inl (tc 0, 357, .inl row)), (tr, .inl (tc 0, 357, .inl trow)), (mo, .inr (8, [.int 1, .ref sc, .int ss, .int sp, .int ig, .int lf, .ref rd, .ref nw, .ref tr, .ref di, .int ac, .ref kp, .ref ik]))] := hD
    refine lv_if_eq (tgt := 28) hx hb dX8_drops_23 (by decide) (fun c_4 => ?_) (fun c_4 => ?_)
    · exact absurd c_4 (by decide)
    · refine lv_iconst (v := 0) hx hb dX8_drops_26 (by decide) ?_
      exact hret _ _ (0) (1, trow) _ _ (by rw [mX8_drops]; (try dsimp only); rw [hw_1]; (try dsimp only); rw [if_pos c_2]; (first | done | rfl)) (hP.sub [2, 0, 1] rfl) (hD.sub [2, 0, 1] (by decide) rfl) hS dX8_drops_27
  · have hj_1 := hi_1.resolve_left c_2
    refine lv_iload_n hx hb dX8_drops_8 rfl (lv_at hl 2 rfl) ?_
    refine fc_goi (isC := []) (isR := [0, 1, 2]) (wc := []) (wr := [(mo, .inr (8, [.int rf, .ref sc, .int ss, .int sp, .int ig, .int lf, .ref rd, .ref nw, .ref tr, .ref di, .int ac, .ref kp, .ref ik])), (nw, .inl (tc 0, 357, .inl row)), (tr, .inl (tc 0, 357, .inl trow))]) hP hD hS hA rfl rfl (by decide) (by decide) (fc_runS (isC := []) (As := [.int p1]) (rest := [.ref mo]) hx hb hml hown hts hK hE hP hD hS hA rfl (by decide) (c_X8_isTicks l D tc p1 _ ) (cwS 1 hts gX8_drops_X8_isTicks rfl rfl rfl hd_X8_isTicks ⟨Nat.le_of_ble_eq_true rfl, Nat.le_of_ble_eq_true rfl⟩) rfl hl.1 rfl (Nat.le_of_ble_eq_true rfl) dX8_drops_9 ⟨Nat.le_of_ble_eq_true rfl, Nat.le_of_ble_eq_true rfl⟩) (fun r_5 u_5 H locs hw_5 hP hD hS => ?_)
    try dsimp only at hw_5
    have hP : va_P D vwCl [(mo, .inr (8, [.int rf, .ref sc, .int ss, .int sp, .int ig, .int lf, .ref rd, .ref nw, .ref tr, .ref di, .int ac, .ref kp, .ref ik])), (nw, .inl (tc 0, 357, .inl row)), (tr, .inl (tc 0, 357, .inl trow))] H := hP
    have hD : va_D A [(mo, .inr (8, [.int rf, .ref sc, .int ss, .int sp, .int ig, .int lf, .ref rd, .ref nw, .ref tr, .ref di, .int ac, .ref kp, .ref ik])), (nw, .inl (tc 0, 357, .inl row)), (tr, .inl (tc 0, 357, .inl trow))] := hD
    have hi_5 := fx_isTicks8 hw_5
    refine lv_if_eq (tgt := 19) hx hb dX8_drops_12 (by decide) (fun c_6 => ?_) (fun c_6 => ?_)
    · refine lv_iconst (v := 1) hx hb dX8_drops_19 (by decide) ?_
      refine fc_goi (isC := [0]) (isR := [1, 2]) (wc := [(mo, .inr (8, [.int rf, .ref sc, .int ss, .int sp, .int ig, .int lf, .ref rd, .ref nw, .ref tr, .ref di, .int ac, .ref kp, .ref ik]))]) (wr := [(nw, .inl (tc 0, 357, .inl row)), (tr, .inl (tc 0, 357, .inl trow))]) hP hD hS hA rfl rfl (by decide) (by decide) (fc_runV (isC := [0]) (As := [.int 1]) (rest := []) hx hb hml hown hts hK hE hP hD hS hA rfl (by decide) (c_X8_refused l D tc mo sc rd nw tr di kp ik rf ss sp ig lf ac 1 _ ) (cwV 1 hts gX8_drops_X8_refused rfl rfl rfl hd_X8_refused ⟨Nat.le_of_ble_eq_true rfl, Nat.le_of_ble_eq_true rfl⟩) (ci := 8) rfl rfl rfl rfl hl.1 rfl (Nat.le_of_ble_eq_true rfl) dX8_drops_20 ⟨Nat.le_of_ble_eq_true rfl, Nat.le_of_ble_eq_true rfl⟩) (fun r_7 u_7 H locs hw_7 hP hD hS => ?_)
      obtain ⟨rf_7, rfl⟩ : ∃ z, z = u_7 := ⟨_, rfl⟩
      obtain ⟨z1_7, z2_7⟩ := fx_ref1 hw_7
      subst z1_7
      subst z2_7
      have hP : va_P D vwCl [(nw, .inl (tc 0, 357, .inl row)), (tr, .inl (tc 0, 357, .inl trow)), (mo, .inr (8, [.int 1, .ref sc, .int ss, .int sp, .int ig, .int lf, .ref rd, .ref nw, .ref tr, .ref di, .int ac, .ref kp, .ref ik]))] H := hP
      have hD : va_D A [(nw, .inl (tc 0, 357, .inl row)), (tr, .inl (tc 0, 357, .inl trow)), (mo, .inr (8, [.int 1, .ref sc, .int ss, .int sp, .int ig, .int lf, .ref rd, .ref nw, .ref tr, .ref di, .int ac, .ref kp, .ref ik]))] := hD
      refine lv_if_eq (tgt := 28) hx hb dX8_drops_23 (by decide) (fun c_8 => ?_) (fun c_8 => ?_)
      · exact absurd c_8 (by decide)
      · refine lv_iconst (v := 0) hx hb dX8_drops_26 (by decide) ?_
        exact hret _ _ (0) (1, trow) _ _ (by rw [mX8_drops]; (try dsimp only); rw [hw_1]; (try dsimp only); rw [if_neg c_2]; rw [hw_5]; (try dsimp only); rw [if_pos c_6]; (first | done | rfl)) (hP.sub [2, 0, 1] rfl) (hD.sub [2, 0, 1] (by decide) rfl) hS dX8_drops_27
    · have hj_5 := hi_5.resolve_left c_6
      refine lv_iconst (v := 0) hx hb dX8_drops_15 (by decide) ?_
      refine lv_goto (tgt := 20) hx hb dX8_drops_16 (by decide) ?_
      refine fc_goi (isC := [0]) (isR := [1, 2]) (wc := [(mo, .inr (8, [.int rf, .ref sc, .int ss, .int sp, .int ig, .int lf, .ref rd, .ref nw, .ref tr, .ref di, .int ac, .ref kp, .ref ik]))]) (wr := [(nw, .inl (tc 0, 357, .inl row)), (tr, .inl (tc 0, 357, .inl trow))]) hP hD hS hA rfl rfl (by decide) (by decide) (fc_runV (isC := [0]) (As := [.int 0]) (rest := []) hx hb hml hown hts hK hE hP hD hS hA rfl (by decide) (c_X8_refused l D tc mo sc rd nw tr di kp ik rf ss sp ig lf ac 0 _ ) (cwV 1 hts gX8_drops_X8_refused rfl rfl rfl hd_X8_refused ⟨Nat.le_of_ble_eq_true rfl, Nat.le_of_ble_eq_true rfl⟩) (ci := 8) rfl rfl rfl rfl hl.1 rfl (Nat.le_of_ble_eq_true rfl) dX8_drops_20 ⟨Nat.le_of_ble_eq_true rfl, Nat.le_of_ble_eq_true rfl⟩) (fun r_9 u_9 H locs hw_9 hP hD hS => ?_)
      obtain ⟨rf_9, rfl⟩ : ∃ z, z = u_9 := ⟨_, rfl⟩
      obtain ⟨z1_9, z2_9⟩ := fx_ref0 hw_9
      subst z1_9
      subst z2_9
      have hP : va_P D vwCl [(nw, .inl (tc 0, 357, .inl row)), (tr, .inl (tc 0, 357, .inl trow)), (mo, .inr (8, [.int 0, .ref sc, .int ss, .int sp, .int ig, .int lf, .ref rd, .ref nw, .ref tr, .ref di, .int ac, .ref kp, .ref ik]))] H := hP
      have hD : va_D A [(nw, .inl (tc 0, 357, .inl row)), (tr, .inl (tc 0, 357, .inl trow)), (mo, .inr (8, [.int 0, .ref sc, .int ss, .int sp, .int ig, .int lf, .ref rd, .ref nw, .ref tr, .ref di, .int ac, .ref kp, .ref ik]))] := hD
      refine lv_if_eq (tgt := 28) hx hb dX8_drops_23 (by decide) (fun c_10 => ?_) (fun c_10 => ?_)
      · refine lv_aload_n hx hb dX8_drops_28 rfl (lv_at hl 0 rfl) ?_
        refine fc_gov (isC := [2, 0, 1]) (isR := []) (wc := [(mo, .inr (8, [.int 0, .ref sc, .int ss, .int sp, .int ig, .int lf, .ref rd, .ref nw, .ref tr, .ref di, .int ac, .ref kp, .ref ik])), (nw, .inl (tc 0, 357, .inl row)), (tr, .inl (tc 0, 357, .inl trow))]) (wr := []) hP hD hS hA rfl rfl (by decide) (by decide) (fc_runV (isC := [2, 0, 1]) (As := []) (rest := []) hx hb hml hown hts hK hE hP hD hS hA rfl (by decide) (c_X8_tryIt l D tc mo sc rd nw tr di kp ik 0 ss sp ig lf ac row trow _ ) (cwV 0 hts gX8_drops_X8_tryIt rfl rfl rfl hd_X8_tryIt ⟨Nat.le_of_ble_eq_true rfl, Nat.le_of_ble_eq_true rfl⟩) (ci := 8) rfl rfl rfl rfl hl.1 rfl (Nat.le_of_ble_eq_true rfl) dX8_drops_29 ⟨Nat.le_of_ble_eq_true rfl, Nat.le_of_ble_eq_true rfl⟩) (fun u_11 H locs hw_11 hP hD hS => ?_)
        obtain ⟨trow_11, rfl⟩ : ∃ z, z = u_11 := ⟨_, rfl⟩
        try dsimp only at hw_11
        have hP : va_P D vwCl [(mo, .inr (8, [.int 0, .ref sc, .int ss, .int sp, .int ig, .int lf, .ref rd, .ref nw, .ref tr, .ref di, .int ac, .ref kp, .ref ik])), (nw, .inl (tc 0, 357, .inl row)), (tr, .inl (tc 0, 357, .inl trow_11))] H := hP
        have hD : va_D A [(mo, .inr (8, [.int 0, .ref sc, .int ss, .int sp, .int ig, .int lf, .ref rd, .ref nw, .ref tr, .ref di, .int ac, .ref kp, .ref ik])), (nw, .inl (tc 0, 357, .inl row)), (tr, .inl (tc 0, 357, .inl trow_11))] := hD
        have hx1 := (RX_tryIt hw_11 hR)
        refine lv_aload_n hx hb dX8_drops_32 rfl (lv_at hl 0 rfl) ?_
        refine va_get (D := D) (ci := 8) (v := .ref tr) (C := RX8) (T := TX8) (N := 13) hx hb hts iX8_drops_X8 hown hK hP 0 rfl rfl 8 (by decide) (hts (.fieldLink RX8 19 "FrameCardModel" "trial" "[I") (by decide +kernel)) (fun _ h9 => h9) rfl dX8_drops_33 ?_
        refine lv_iload_n hx hb dX8_drops_36 rfl (lv_at hl 1 rfl) ?_
        refine fc_goi (isC := [2]) (isR := [0, 1]) (wc := [(tr, .inl (tc 0, 357, .inl trow_11))]) (wr := [(mo, .inr (8, [.int 0, .ref sc, .int ss, .int sp, .int ig, .int lf, .ref rd, .ref nw, .ref tr, .ref di, .int ac, .ref kp, .ref ik])), (nw, .inl (tc 0, 357, .inl row))]) hP hD hS hA rfl rfl (by decide) (by decide) (fc_runS (isC := [2]) (As := [.ref tr, .int p0]) (rest := []) hx hb hml hown hts hK hE hP hD hS hA rfl (by decide) (c_X8_shootIn l D tc tr trow_11 p0 _ (RX_K hx1).2.2) (cwS 2 hts gX8_drops_X8_shootIn rfl rfl rfl hd_X8_shootIn ⟨Nat.le_of_ble_eq_true rfl, Nat.le_of_ble_eq_true rfl⟩) rfl hl.1 rfl (Nat.le_of_ble_eq_true rfl) dX8_drops_37 ⟨Nat.le_of_ble_eq_true rfl, Nat.le_of_ble_eq_true rfl⟩) (fun r_12 u_12 H locs hw_12 hP hD hS => ?_)
        obtain ⟨row_12, rfl⟩ : ∃ z, z = u_12 := ⟨_, rfl⟩
        try dsimp only at hw_12
        have hP : va_P D vwCl [(mo, .inr (8, [.int 0, .ref sc, .int ss, .int sp, .int ig, .int lf, .ref rd, .ref nw, .ref tr, .ref di, .int ac, .ref kp, .ref ik])), (nw, .inl (tc 0, 357, .inl row)), (tr, .inl (tc 0, 357, .inl row_12))] H := hP
        have hD : va_D A [(mo, .inr (8, [.int 0, .ref sc, .int ss, .int sp, .int ig, .int lf, .ref rd, .ref nw, .ref tr, .ref di, .int ac, .ref kp, .ref ik])), (nw, .inl (tc 0, 357, .inl row)), (tr, .inl (tc 0, 357, .inl row_12))] := hD
        have hx2 := (RX_shoot (m := 59) hx1 (by omega) hw_12)
        refine lv_pop hx hb dX8_drops_40 rfl ?_
        refine lv_aload_n hx hb dX8_drops_41 rfl (lv_at hl 0 rfl) ?_
        refine va_get (D := D) (ci := 8) (v := .ref tr) (C := RX8) (T := TX8) (N := 13) hx hb hts iX8_drops_X8 hown hK hP 0 rfl rfl 8 (by decide) (hts (.fieldLink RX8 19 "FrameCardModel" "trial" "[I") (by decide +kernel)) (fun _ h9 => h9) rfl dX8_drops_42 ?_
        refine lv_iload_n hx hb dX8_drops_45 rfl (lv_at hl 2 rfl) ?_
        refine fc_goi (isC := [2]) (isR := [0, 1]) (wc := [(tr, .inl (tc 0, 357, .inl row_12))]) (wr := [(mo, .inr (8, [.int 0, .ref sc, .int ss, .int sp, .int ig, .int lf, .ref rd, .ref nw, .ref tr, .ref di, .int ac, .ref kp, .ref ik])), (nw, .inl (tc 0, 357, .inl row))]) hP hD hS hA rfl rfl (by decide) (by decide) (fc_runS (isC := [2]) (As := [.ref tr, .int p1]) (rest := []) hx hb hml hown hts hK hE hP hD hS hA rfl (by decide) (c_X8_ticksIn l D tc tr row_12 p1 _ (by omega) (hx2.mono (by omega))) (cwS 2 hts gX8_drops_X8_ticksIn rfl rfl rfl hd_X8_ticksIn ⟨Nat.le_of_ble_eq_true rfl, Nat.le_of_ble_eq_true rfl⟩) rfl hl.1 rfl (Nat.le_of_ble_eq_true rfl) dX8_drops_46 ⟨Nat.le_of_ble_eq_true rfl, Nat.le_of_ble_eq_true rfl⟩) (fun r_13 u_13 H locs hw_13 hP hD hS => ?_)
        obtain ⟨row_13, rfl⟩ : ∃ z, z = u_13 := ⟨_, rfl⟩
        try dsimp only at hw_13
        have hP : va_P D vwCl [(mo, .inr (8, [.int 0, .ref sc, .int ss, .int sp, .int ig, .int lf, .ref rd, .ref nw, .ref tr, .ref di, .int ac, .ref kp, .ref ik])), (nw, .inl (tc 0, 357, .inl row)), (tr, .inl (tc 0, 357, .inl row_13))] H := hP
        have hD : va_D A [(mo, .inr (8, [.int 0, .ref sc, .int ss, .int sp, .int ig, .int lf, .ref rd, .ref nw, .ref tr, .ref di, .int ac, .ref kp, .ref ik])), (nw, .inl (tc 0, 357, .inl row)), (tr, .inl (tc 0, 357, .inl row_13))] := hD
        refine lv_pop hx hb dX8_drops_49 rfl ?_
        refine lv_aload_n hx hb dX8_drops_50 rfl (lv_at hl 0 rfl) ?_
        refine va_get (D := D) (ci := 8) (v := .ref tr) (C := RX8) (T := TX8) (N := 13) hx hb hts iX8_drops_X8 hown hK hP 0 rfl rfl 8 (by decide) (hts (.fieldLink RX8 19 "FrameCardModel" "trial" "[I") (by decide +kernel)) (fun _ h9 => h9) rfl dX8_drops_51 ?_
        refine lv_bipush (v := 6) hx hb dX8_drops_54 (by decide) ?_
        refine va_iald (D := D) hx hb hK hP 2 0 rfl rfl (vp_in_iff.mpr (by decide)) dX8_drops_56 ?_
        refine lv_aload_n hx hb dX8_drops_57 rfl (lv_at hl 0 rfl) ?_
        refine va_get (D := D) (ci := 8) (v := .ref nw) (C := RX8) (T := TX8) (N := 13) hx hb hts iX8_drops_X8 hown hK hP 0 rfl rfl 7 (by decide) (hts (.fieldLink RX8 16 "FrameCardModel" "now" "[I") (by decide +kernel)) (fun _ h9 => h9) rfl dX8_drops_58 ?_
        refine lv_bipush (v := 6) hx hb dX8_drops_61 (by decide) ?_
        refine va_iald (D := D) hx hb hK hP 1 0 rfl rfl (vp_in_iff.mpr (by decide)) dX8_drops_63 ?_
        refine lv_isub hx hb dX8_drops_64 ?_
        exact hret _ _ ((row_13 (6 : Int32).toNatClampNeg) - (row (6 : Int32).toNatClampNeg)) (0, row_13) _ _ (by rw [mX8_drops]; (try dsimp only); rw [hw_1]; (try dsimp only); rw [if_neg c_2]; rw [hw_5]; (try dsimp only); rw [if_neg c_6]; rw [hw_11]; (try dsimp only); rw [hw_12]; (try dsimp only); rw [hw_13]; (try dsimp only); (first | done | rfl)) (hP.sub [0, 1, 2] rfl) (hD.sub [0, 1, 2] (by decide) rfl) hS dX8_drops_65
      · exact absurd (by decide) c_10
--# X8_goes
noncomputable def mX8_goes (rf : Int32) (ss : Int32) (sp : Int32) (ig : Int32) (lf : Int32) (ac : Int32) (trow : Nat → Int32) (p0 : Int32) : Int32 × (Nat → Int32) :=
  let r_1 := mX8_isTicks p0
  if r_1 = 0 then
    (0, trow)
  else
    match mX8_ticksIn trow p0 with
    | (r_3, row_3) =>
      (1, row_3)
set_option maxRecDepth 20000 in
theorem iX8_goes_X8 : ∀ w ∈ wsX80, w ∈ wsX8_goes := by decide +kernel
abbrev rmX8_goes : Room := { frames := 5, cells := 0, slots := 0, locals := 114 }
set_option maxHeartbeats 4000000 in
set_option maxRecDepth 100000 in
theorem c_X8_goes (l : Launch) (D : va_G) (tc : Nat → ClassId) (mo : Nat) (sc : Nat) (rd : Nat) (nw : Nat) (tr : Nat) (di : Nat) (kp : Nat) (ik : Nat) (rf : Int32) (ss : Int32) (sp : Int32) (ig : Int32) (lf : Int32) (ac : Int32) (trow : Nat → Int32) (p0 : Int32) (sz : Nat) (hR : RXn 51 trow) : Met l yX8_goes wsX8_goes rmX8_goes (va_Pc [.ref mo, .int p0] (fcB D tc [(mo, .inr (8, [.int rf, .ref sc, .int ss, .int sp, .int ig, .int lf, .ref rd, .ref nw, .ref tr, .ref di, .int ac, .ref kp, .ref ik])), (tr, .inl (tc 0, 357, .inl trow))] sz)) (va_Qi (fun (r : Int32) (u : Nat → Int32) => mX8_goes rf ss sp ig lf ac trow p0 = (r, u)) (fun u t => fcO D (va_A [(mo, .inr (8, [.int rf, .ref sc, .int ss, .int sp, .int ig, .int lf, .ref rd, .ref nw, .ref tr, .ref di, .int ac, .ref kp, .ref ik])), (tr, .inl (tc 0, 357, .inl trow))] sz) ((fun (u : Nat → Int32) => [(mo, .inr (8, [.int rf, .ref sc, .int ss, .int sp, .int ig, .int lf, .ref rd, .ref nw, .ref tr, .ref di, .int ac, .ref kp, .ref ik])), (tr, .inl (tc 0, 357, .inl u))]) u) t) (va_A [(mo, .inr (8, [.int rf, .ref sc, .int ss, .int sp, .int ig, .int lf, .ref rd, .ref nw, .ref tr, .ref di, .int ac, .ref kp, .ref ik])), (tr, .inl (tc 0, 357, .inl trow))] sz)) 0 0 (va_A [(mo, .inr (8, [.int rf, .ref sc, .int ss, .int sp, .int ig, .int lf, .ref rd, .ref nw, .ref tr, .ref di, .int ac, .ref kp, .ref ik])), (tr, .inl (tc 0, 357, .inl trow))] sz) := by
  refine fc_ofWz (own := RX8) (cc := cX8_goes) (maxL := 2) (W1 := (fun (u : Nat → Int32) => [(mo, .inr (8, [.int rf, .ref sc, .int ss, .int sp, .int ig, .int lf, .ref rd, .ref nw, .ref tr, .ref di, .int ac, .ref kp, .ref ik])), (tr, .inl (tc 0, 357, .inl u))])) rfl (by decide) rfl (Nat.le_of_ble_eq_true rfl) ?_
  intro p e s m args below meth c A Q hx hb hml hown hts hK hE hP hD hS hA hin hret ls hl
  have hl : lv_has ls 2 [(0, .ref mo), (1, .int p0)] := hl
  refine lv_iload_n hx hb dX8_goes_0 rfl (lv_at hl 1 rfl) ?_
  refine fc_goi (isC := []) (isR := [0, 1]) (wc := []) (wr := [(mo, .inr (8, [.int rf, .ref sc, .int ss, .int sp, .int ig, .int lf, .ref rd, .ref nw, .ref tr, .ref di, .int ac, .ref kp, .ref ik])), (tr, .inl (tc 0, 357, .inl trow))]) hP hD hS hA rfl rfl (by decide) (by decide) (fc_runS (isC := []) (As := [.int p0]) (rest := []) hx hb hml hown hts hK hE hP hD hS hA rfl (by decide) (c_X8_isTicks l D tc p0 _ ) (cwS 1 hts gX8_goes_X8_isTicks rfl rfl rfl hd_X8_isTicks ⟨Nat.le_of_ble_eq_true rfl, Nat.le_of_ble_eq_true rfl⟩) rfl hl.1 rfl (Nat.le_of_ble_eq_true rfl) dX8_goes_1 ⟨Nat.le_of_ble_eq_true rfl, Nat.le_of_ble_eq_true rfl⟩) (fun r_1 u_1 H locs hw_1 hP hD hS => ?_)
  try dsimp only at hw_1
  have hP : va_P D vwCl [(mo, .inr (8, [.int rf, .ref sc, .int ss, .int sp, .int ig, .int lf, .ref rd, .ref nw, .ref tr, .ref di, .int ac, .ref kp, .ref ik])), (tr, .inl (tc 0, 357, .inl trow))] H := hP
  have hD : va_D A [(mo, .inr (8, [.int rf, .ref sc, .int ss, .int sp, .int ig, .int lf, .ref rd, .ref nw, .ref tr, .ref di, .int ac, .ref kp, .ref ik])), (tr, .inl (tc 0, 357, .inl trow))] := hD
  have hi_1 := fx_isTicks8 hw_1
  refine lv_if_ne (tgt := 9) hx hb dX8_goes_4 (by decide) (fun c_2 => ?_) (fun c_2 => ?_)
  · have hj_1 := hi_1.resolve_left c_2
    refine lv_aload_n hx hb dX8_goes_9 rfl (lv_at hl 0 rfl) ?_
    refine va_get (D := D) (ci := 8) (v := .ref tr) (C := RX8) (T := TX8) (N := 13) hx hb hts iX8_goes_X8 hown hK hP 0 rfl rfl 8 (by decide) (hts (.fieldLink RX8 19 "FrameCardModel" "trial" "[I") (by decide +kernel)) (fun _ h9 => h9) rfl dX8_goes_10 ?_
    refine lv_iload_n hx hb dX8_goes_13 rfl (lv_at hl 1 rfl) ?_
    refine fc_goi (isC := [1]) (isR := [0]) (wc := [(tr, .inl (tc 0, 357, .inl trow))]) (wr := [(mo, .inr (8, [.int rf, .ref sc, .int ss, .int sp, .int ig, .int lf, .ref rd, .ref nw, .ref tr, .ref di, .int ac, .ref kp, .ref ik]))]) hP hD hS hA rfl rfl (by decide) (by decide) (fc_runS (isC := [1]) (As := [.ref tr, .int p0]) (rest := []) hx hb hml hown hts hK hE hP hD hS hA rfl (by decide) (c_X8_ticksIn l D tc tr trow p0 _ (by omega) hR) (cwS 2 hts gX8_goes_X8_ticksIn rfl rfl rfl hd_X8_ticksIn ⟨Nat.le_of_ble_eq_true rfl, Nat.le_of_ble_eq_true rfl⟩) rfl hl.1 rfl (Nat.le_of_ble_eq_true rfl) dX8_goes_14 ⟨Nat.le_of_ble_eq_true rfl, Nat.le_of_ble_eq_true rfl⟩) (fun r_3 u_3 H locs hw_3 hP hD hS => ?_)
    obtain ⟨row_3, rfl⟩ : ∃ z, z = u_3 := ⟨_, rfl⟩
    try dsimp only at hw_3
    have hP : va_P D vwCl [(mo, .inr (8, [.int rf, .ref sc, .int ss, .int sp, .int ig, .int lf, .ref rd, .ref nw, .ref tr, .ref di, .int ac, .ref kp, .ref ik])), (tr, .inl (tc 0, 357, .inl row_3))] H := hP
    have hD : va_D A [(mo, .inr (8, [.int rf, .ref sc, .int ss, .int sp, .int ig, .int lf, .ref rd, .ref nw, .ref tr, .ref di, .int ac, .ref kp, .ref ik])), (tr, .inl (tc 0, 357, .inl row_3))] := hD
    refine lv_pop hx hb dX8_goes_17 rfl ?_
    refine lv_iconst (v := 1) hx hb dX8_goes_18 (by decide) ?_
    exact hret _ _ (1) row_3 _ _ (Or.inr rfl) (by rw [mX8_goes]; (try dsimp only); rw [hw_1]; (try dsimp only); rw [if_neg c_2]; rw [hw_3]; (try dsimp only); (first | done | rfl)) (hP.sub [0, 1] rfl) (hD.sub [0, 1] (by decide) rfl) hS dX8_goes_19
  · refine lv_iconst (v := 0) hx hb dX8_goes_7 (by decide) ?_
    exact hret _ _ (0) trow _ _ (Or.inl rfl) (by rw [mX8_goes]; (try dsimp only); rw [hw_1]; (try dsimp only); rw [if_pos c_2]; (first | done | rfl)) (hP.sub [0, 1] rfl) (hD.sub [0, 1] (by decide) rfl) hS dX8_goes_8
--# X8_dropsOne
noncomputable def mX8_dropsOne (rf : Int32) (ss : Int32) (sp : Int32) (ig : Int32) (lf : Int32) (ac : Int32) (trow : Nat → Int32) (p0 : Int32) : Int32 × (Nat → Int32) :=
  if p0 < (trow (16 : Int32).toNatClampNeg) then
    match mX8_dropIn trow p0 with
    | (r_2, row_2) =>
      (1, row_2)
  else
    (0, trow)
set_option maxRecDepth 20000 in
theorem iX8_dropsOne_X8 : ∀ w ∈ wsX80, w ∈ wsX8_dropsOne := by decide +kernel
abbrev rmX8_dropsOne : Room := { frames := 2, cells := 0, slots := 0, locals := 49 }
set_option maxHeartbeats 4000000 in
set_option maxRecDepth 100000 in
theorem c_X8_dropsOne (l : Launch) (D : va_G) (tc : Nat → ClassId) (mo : Nat) (sc : Nat) (rd : Nat) (nw : Nat) (tr : Nat) (di : Nat) (kp : Nat) (ik : Nat) (rf : Int32) (ss : Int32) (sp : Int32) (ig : Int32) (lf : Int32) (ac : Int32) (trow : Nat → Int32) (p0 : Int32) (sz : Nat) (hR : RXn 1 trow) (h0 : 0 ≤ p0.toInt) : Met l yX8_dropsOne wsX8_dropsOne rmX8_dropsOne (va_Pc [.ref mo, .int p0] (fcB D tc [(mo, .inr (8, [.int rf, .ref sc, .int ss, .int sp, .int ig, .int lf, .ref rd, .ref nw, .ref tr, .ref di, .int ac, .ref kp, .ref ik])), (tr, .inl (tc 0, 357, .inl trow))] sz)) (va_Qi (fun (r : Int32) (u : Nat → Int32) => mX8_dropsOne rf ss sp ig lf ac trow p0 = (r, u)) (fun u t => fcO D (va_A [(mo, .inr (8, [.int rf, .ref sc, .int ss, .int sp, .int ig, .int lf, .ref rd, .ref nw, .ref tr, .ref di, .int ac, .ref kp, .ref ik])), (tr, .inl (tc 0, 357, .inl trow))] sz) ((fun (u : Nat → Int32) => [(mo, .inr (8, [.int rf, .ref sc, .int ss, .int sp, .int ig, .int lf, .ref rd, .ref nw, .ref tr, .ref di, .int ac, .ref kp, .ref ik])), (tr, .inl (tc 0, 357, .inl u))]) u) t) (va_A [(mo, .inr (8, [.int rf, .ref sc, .int ss, .int sp, .int ig, .int lf, .ref rd, .ref nw, .ref tr, .ref di, .int ac, .ref kp, .ref ik])), (tr, .inl (tc 0, 357, .inl trow))] sz)) 0 0 (va_A [(mo, .inr (8, [.int rf, .ref sc, .int ss, .int sp, .int ig, .int lf, .ref rd, .ref nw, .ref tr, .ref di, .int ac, .ref kp, .ref ik])), (tr, .inl (tc 0, 357, .inl trow))] sz) := by
  refine fc_ofWz (own := RX8) (cc := cX8_dropsOne) (maxL := 2) (W1 := (fun (u : Nat → Int32) => [(mo, .inr (8, [.int rf, .ref sc, .int ss, .int sp, .int ig, .int lf, .ref rd, .ref nw, .ref tr, .ref di, .int ac, .ref kp, .ref ik])), (tr, .inl (tc 0, 357, .inl u))])) rfl (by decide) rfl (Nat.le_of_ble_eq_true rfl) ?_
  intro p e s m args below meth c A Q hx hb hml hown hts hK hE hP hD hS hA hin hret ls hl
  have hl : lv_has ls 2 [(0, .ref mo), (1, .int p0)] := hl
  refine lv_iload_n hx hb dX8_dropsOne_0 rfl (lv_at hl 1 rfl) ?_
  refine lv_aload_n hx hb dX8_dropsOne_1 rfl (lv_at hl 0 rfl) ?_
  refine va_get (D := D) (ci := 8) (v := .ref tr) (C := RX8) (T := TX8) (N := 13) hx hb hts iX8_dropsOne_X8 hown hK hP 0 rfl rfl 8 (by decide) (hts (.fieldLink RX8 19 "FrameCardModel" "trial" "[I") (by decide +kernel)) (fun _ h9 => h9) rfl dX8_dropsOne_2 ?_
  refine lv_bipush (v := 16) hx hb dX8_dropsOne_5 (by decide) ?_
  refine va_iald (D := D) hx hb hK hP 1 0 rfl rfl (vp_in_iff.mpr (by decide)) dX8_dropsOne_7 ?_
  refine lv_icmp_lt (tgt := 13) hx hb dX8_dropsOne_8 (by decide) (fun c_1 => ?_) (fun c_1 => ?_)
  · refine lv_aload_n hx hb dX8_dropsOne_13 rfl (lv_at hl 0 rfl) ?_
    refine va_get (D := D) (ci := 8) (v := .ref tr) (C := RX8) (T := TX8) (N := 13) hx hb hts iX8_dropsOne_X8 hown hK hP 0 rfl rfl 8 (by decide) (hts (.fieldLink RX8 19 "FrameCardModel" "trial" "[I") (by decide +kernel)) (fun _ h9 => h9) rfl dX8_dropsOne_14 ?_
    refine lv_iload_n hx hb dX8_dropsOne_17 rfl (lv_at hl 1 rfl) ?_
    refine fc_goi (isC := [1]) (isR := [0]) (wc := [(tr, .inl (tc 0, 357, .inl trow))]) (wr := [(mo, .inr (8, [.int rf, .ref sc, .int ss, .int sp, .int ig, .int lf, .ref rd, .ref nw, .ref tr, .ref di, .int ac, .ref kp, .ref ik]))]) hP hD hS hA rfl rfl (by decide) (by decide) (fc_runS (isC := [1]) (As := [.ref tr, .int p0]) (rest := []) hx hb hml hown hts hK hE hP hD hS hA rfl (by decide) (c_X8_dropIn l D tc tr trow p0 _ (RX_K hR).1 (RX_K hR).2.1.2 (by have l_0 : (0 : Int32).toInt = 0 := (by decide); have l_1 : (1 : Int32).toInt = 1 := (by decide); have l_16 : (16 : Int32).toInt = 16 := (by decide); have l_2 : (2 : Int32).toInt = 2 := (by decide); have l_3 : (3 : Int32).toInt = 3 := (by decide); have l_4 : (4 : Int32).toInt = 4 := (by decide); have qc_1 := c_1; (try simp only [fc_le, fc_lt, fc_eq] at qc_1); (try simp only [fc_le, fc_lt, fc_eq]); omega)) (cwS 2 hts gX8_dropsOne_X8_dropIn rfl rfl rfl hd_X8_dropIn ⟨Nat.le_of_ble_eq_true rfl, Nat.le_of_ble_eq_true rfl⟩) rfl hl.1 rfl (Nat.le_of_ble_eq_true rfl) dX8_dropsOne_18 ⟨Nat.le_of_ble_eq_true rfl, Nat.le_of_ble_eq_true rfl⟩) (fun r_2 u_2 H locs hw_2 hP hD hS => ?_)
    obtain ⟨row_2, rfl⟩ : ∃ z, z = u_2 := ⟨_, rfl⟩
    try dsimp only at hw_2
    have hP : va_P D vwCl [(mo, .inr (8, [.int rf, .ref sc, .int ss, .int sp, .int ig, .int lf, .ref rd, .ref nw, .ref tr, .ref di, .int ac, .ref kp, .ref ik])), (tr, .inl (tc 0, 357, .inl row_2))] H := hP
    have hD : va_D A [(mo, .inr (8, [.int rf, .ref sc, .int ss, .int sp, .int ig, .int lf, .ref rd, .ref nw, .ref tr, .ref di, .int ac, .ref kp, .ref ik])), (tr, .inl (tc 0, 357, .inl row_2))] := hD
    refine lv_pop hx hb dX8_dropsOne_21 rfl ?_
    refine lv_iconst (v := 1) hx hb dX8_dropsOne_22 (by decide) ?_
    exact hret _ _ (1) row_2 _ _ (Or.inr rfl) (by rw [mX8_dropsOne]; (try dsimp only); rw [if_pos c_1]; rw [hw_2]; (try dsimp only); (first | done | rfl)) (hP.sub [0, 1] rfl) (hD.sub [0, 1] (by decide) rfl) hS dX8_dropsOne_23
  · refine lv_iconst (v := 0) hx hb dX8_dropsOne_11 (by decide) ?_
    exact hret _ _ (0) trow _ _ (Or.inl rfl) (by rw [mX8_dropsOne]; (try dsimp only); rw [if_neg c_1]; (first | done | rfl)) (hP.sub [0, 1] rfl) (hD.sub [0, 1] (by decide) rfl) hS dX8_dropsOne_12
--# X8_sets
noncomputable def mX8_sets (rf : Int32) (ss : Int32) (sp : Int32) (ig : Int32) (lf : Int32) (ac : Int32) (trow : Nat → Int32) (p0 : Int32) (p1 : Int32) : Int32 × (Nat → Int32) :=
  let r_1 := mX8_isSetting p0 p1
  if r_1 = 0 then
    (0, trow)
  else
    let trow_3 := (upd trow p0.toNatClampNeg p1)
    (1, trow_3)
set_option maxRecDepth 20000 in
theorem iX8_sets_X8 : ∀ w ∈ wsX80, w ∈ wsX8_sets := by decide +kernel
abbrev rmX8_sets : Room := { frames := 2, cells := 0, slots := 0, locals := 46 }
set_option maxHeartbeats 4000000 in
set_option maxRecDepth 100000 in
theorem c_X8_sets (l : Launch) (D : va_G) (tc : Nat → ClassId) (mo : Nat) (sc : Nat) (rd : Nat) (nw : Nat) (tr : Nat) (di : Nat) (kp : Nat) (ik : Nat) (rf : Int32) (ss : Int32) (sp : Int32) (ig : Int32) (lf : Int32) (ac : Int32) (trow : Nat → Int32) (p0 : Int32) (p1 : Int32) (sz : Nat) : Met l yX8_sets wsX8_sets rmX8_sets (va_Pc [.ref mo, .int p0, .int p1] (fcB D tc [(mo, .inr (8, [.int rf, .ref sc, .int ss, .int sp, .int ig, .int lf, .ref rd, .ref nw, .ref tr, .ref di, .int ac, .ref kp, .ref ik])), (tr, .inl (tc 0, 357, .inl trow))] sz)) (va_Qi (fun (r : Int32) (u : Nat → Int32) => mX8_sets rf ss sp ig lf ac trow p0 p1 = (r, u)) (fun u t => fcO D (va_A [(mo, .inr (8, [.int rf, .ref sc, .int ss, .int sp, .int ig, .int lf, .ref rd, .ref nw, .ref tr, .ref di, .int ac, .ref kp, .ref ik])), (tr, .inl (tc 0, 357, .inl trow))] sz) ((fun (u : Nat → Int32) => [(mo, .inr (8, [.int rf, .ref sc, .int ss, .int sp, .int ig, .int lf, .ref rd, .ref nw, .ref tr, .ref di, .int ac, .ref kp, .ref ik])), (tr, .inl (tc 0, 357, .inl u))]) u) t) (va_A [(mo, .inr (8, [.int rf, .ref sc, .int ss, .int sp, .int ig, .int lf, .ref rd, .ref nw, .ref tr, .ref di, .int ac, .ref kp, .ref ik])), (tr, .inl (tc 0, 357, .inl trow))] sz)) 0 0 (va_A [(mo, .inr (8, [.int rf, .ref sc, .int ss, .int sp, .int ig, .int lf, .ref rd, .ref nw, .ref tr, .ref di, .int ac, .ref kp, .ref ik])), (tr, .inl (tc 0, 357, .inl trow))] sz) := by
  refine fc_ofWz (own := RX8) (cc := cX8_sets) (maxL := 3) (W1 := (fun (u : Nat → Int32) => [(mo, .inr (8, [.int rf, .ref sc, .int ss, .int sp, .int ig, .int lf, .ref rd, .ref nw, .ref tr, .ref di, .int ac, .ref kp, .ref ik])), (tr, .inl (tc 0, 357, .inl u))])) rfl (by decide) rfl (Nat.le_of_ble_eq_true rfl) ?_
  intro p e s m args below meth c A Q hx hb hml hown hts hK hE hP hD hS hA hin hret ls hl
  have hl : lv_has ls 3 [(0, .ref mo), (1, .int p0), (2, .int p1)] := hl
  refine lv_iload_n hx hb dX8_sets_0 rfl (lv_at hl 1 rfl) ?_
  refine lv_iload_n hx hb dX8_sets_1 rfl (lv_at hl 2 rfl) ?_
  refine fc_goi (isC := []) (isR := [0, 1]) (wc := []) (wr := [(mo, .inr (8, [.int rf, .ref sc, .int ss, .int sp, .int ig, .int lf, .ref rd, .ref nw, .ref tr, .ref di, .int ac, .ref kp, .ref ik])), (tr, .inl (tc 0, 357, .inl trow))]) hP hD hS hA rfl rfl (by decide) (by decide) (fc_runS (isC := []) (As := [.int p0, .int p1]) (rest := []) hx hb hml hown hts hK hE hP hD hS hA rfl (by decide) (c_X8_isSetting l D tc p0 p1 _ ) (cwS 2 hts gX8_sets_X8_isSetting rfl rfl rfl hd_X8_isSetting ⟨Nat.le_of_ble_eq_true rfl, Nat.le_of_ble_eq_true rfl⟩) rfl hl.1 rfl (Nat.le_of_ble_eq_true rfl) dX8_sets_2 ⟨Nat.le_of_ble_eq_true rfl, Nat.le_of_ble_eq_true rfl⟩) (fun r_1 u_1 H locs hw_1 hP hD hS => ?_)
  try dsimp only at hw_1
  have hP : va_P D vwCl [(mo, .inr (8, [.int rf, .ref sc, .int ss, .int sp, .int ig, .int lf, .ref rd, .ref nw, .ref tr, .ref di, .int ac, .ref kp, .ref ik])), (tr, .inl (tc 0, 357, .inl trow))] H := hP
  have hD : va_D A [(mo, .inr (8, [.int rf, .ref sc, .int ss, .int sp, .int ig, .int lf, .ref rd, .ref nw, .ref tr, .ref di, .int ac, .ref kp, .ref ik])), (tr, .inl (tc 0, 357, .inl trow))] := hD
  have hi_1 := fx_isSet8 hw_1
  refine lv_if_ne (tgt := 10) hx hb dX8_sets_5 (by decide) (fun c_2 => ?_) (fun c_2 => ?_)
  · have hj_1 := hi_1.resolve_left c_2
    refine lv_aload_n hx hb dX8_sets_10 rfl (lv_at hl 0 rfl) ?_
    refine va_get (D := D) (ci := 8) (v := .ref tr) (C := RX8) (T := TX8) (N := 13) hx hb hts iX8_sets_X8 hown hK hP 0 rfl rfl 8 (by decide) (hts (.fieldLink RX8 19 "FrameCardModel" "trial" "[I") (by decide +kernel)) (fun _ h9 => h9) rfl dX8_sets_11 ?_
    refine lv_iload_n hx hb dX8_sets_14 rfl (lv_at hl 1 rfl) ?_
    refine lv_iload_n hx hb dX8_sets_15 rfl (lv_at hl 2 rfl) ?_
    refine va_iast (D := D) hx hb hK hP hD hS 1 0 rfl rfl (by have l_0 : (0 : Int32).toInt = 0 := (by decide); have l_1 : (1 : Int32).toInt = 1 := (by decide); have l_2 : (2 : Int32).toInt = 2 := (by decide); have l_3 : (3 : Int32).toInt = 3 := (by decide); have l_4 : (4 : Int32).toInt = 4 := (by decide); have qc_2 := c_2; (try simp only [fc_le, fc_lt, fc_eq] at qc_2); have qhj_1 := hj_1; (try simp only [fc_le, fc_lt, fc_eq] at qhj_1); rw [vp_in_iff]; omega) dX8_sets_16 (fun H locs hP hD hS => ?_)
    have hP : va_P D vwCl [(mo, .inr (8, [.int rf, .ref sc, .int ss, .int sp, .int ig, .int lf, .ref rd, .ref nw, .ref tr, .ref di, .int ac, .ref kp, .ref ik])), (tr, .inl (tc 0, 357, .inl (upd trow p0.toNatClampNeg p1)))] H := hP
    have hD : va_D A [(mo, .inr (8, [.int rf, .ref sc, .int ss, .int sp, .int ig, .int lf, .ref rd, .ref nw, .ref tr, .ref di, .int ac, .ref kp, .ref ik])), (tr, .inl (tc 0, 357, .inl (upd trow p0.toNatClampNeg p1)))] := hD
    obtain ⟨trow_3, hw_3⟩ : ∃ z, (upd trow p0.toNatClampNeg p1) = z := ⟨_, rfl⟩
    rw [hw_3] at hP hD
    refine lv_iconst (v := 1) hx hb dX8_sets_17 (by decide) ?_
    exact hret _ _ (1) trow_3 _ _ (Or.inr rfl) (by rw [mX8_sets]; (try dsimp only); rw [hw_1]; (try dsimp only); rw [if_neg c_2]; rw [hw_3]; (try dsimp only); (first | done | rfl)) (hP.sub [0, 1] rfl) (hD.sub [0, 1] (by decide) rfl) hS dX8_sets_18
  · refine lv_iconst (v := 0) hx hb dX8_sets_8 (by decide) ?_
    exact hret _ _ (0) trow _ _ (Or.inl rfl) (by rw [mX8_sets]; (try dsimp only); rw [hw_1]; (try dsimp only); rw [if_pos c_2]; (first | done | rfl)) (hP.sub [0, 1] rfl) (hD.sub [0, 1] (by decide) rfl) hS dX8_sets_9
