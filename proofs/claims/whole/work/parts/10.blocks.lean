/-! Blocks -/
noncomputable def mX0_begin_S2 (count : Int32) (free : Int32) (dirty : Int32) (p0 : Int32) (ih_2 : Int32 → (Nat → Int32) → Int32 × Int32 × Int32 × (Nat → Int32)) (x2h2 : Int32) (holdsh2 : Nat → Int32) : Int32 × Int32 × Int32 × (Nat → Int32) :=
  if 48 ≤ x2h2 then
    (p0, p0, 0, holdsh2)
  else
    ih_2 (x2h2 + 1) (upd holdsh2 x2h2.toNatClampNeg (-1))
noncomputable def mX0_begin_L2 (count : Int32) (free : Int32) (dirty : Int32) (p0 : Int32) (k : Nat) : Int32 → (Nat → Int32) → Int32 × Int32 × Int32 × (Nat → Int32) := Nat.rec (motive := fun _ => Int32 → (Nat → Int32) → Int32 × Int32 × Int32 × (Nat → Int32)) (fun x2h2 holdsh2 => (count, free, dirty, holdsh2)) (fun _ ih => mX0_begin_S2 count free dirty p0 ih) k
theorem mX0_begin_L2_z (count : Int32) (free : Int32) (dirty : Int32) (p0 : Int32) (x2h2 : Int32) (holdsh2 : Nat → Int32) : mX0_begin_L2 count free dirty p0 0 x2h2 holdsh2 = (count, free, dirty, holdsh2) := rfl
theorem mX0_begin_L2_s (count : Int32) (free : Int32) (dirty : Int32) (p0 : Int32) (k : Nat) (x2h2 : Int32) (holdsh2 : Nat → Int32) : mX0_begin_L2 count free dirty p0 (k + 1) x2h2 holdsh2 = mX0_begin_S2 count free dirty p0 (mX0_begin_L2 count free dirty p0 k) x2h2 holdsh2 := rfl
noncomputable def mX0_begin (holds : Nat → Int32) (count : Int32) (free : Int32) (dirty : Int32) (p0 : Int32) : Int32 × Int32 × Int32 × (Nat → Int32) :=
  mX0_begin_L2 count free dirty p0 49 0 holds
set_option maxRecDepth 20000 in
theorem iX0_begin_X0 : ∀ w ∈ wsX00, w ∈ wsX0_begin := by decide +kernel
abbrev rmX0_begin : Room := { frames := 0, cells := 0, slots := 0, locals := 0 }
set_option maxHeartbeats 4000000 in
set_option maxRecDepth 100000 in
theorem c_X0_begin (l : Launch) (D : va_G) (tc : Nat → ClassId) (h0 : Nat) (hh : Nat) (holds : Nat → Int32) (count : Int32) (free : Int32) (dirty : Int32) (p0 : Int32) (sz : Nat) : Met l yX0_begin wsX0_begin rmX0_begin (va_Pc [.ref h0, .int p0] (fcB D tc [(h0, .inr (0, [.ref hh, .int count, .int free, .int dirty])), (hh, .inl (tc 0, 48, .inl holds))] sz)) (va_Qv (fun (u : Int32 × Int32 × Int32 × (Nat → Int32)) => mX0_begin holds count free dirty p0 = u) (fun u t => fcO D (va_A [(h0, .inr (0, [.ref hh, .int count, .int free, .int dirty])), (hh, .inl (tc 0, 48, .inl holds))] sz) ((fun (u : Int32 × Int32 × Int32 × (Nat → Int32)) => [(h0, .inr (0, [.ref hh, .int (u.1), .int (u.2.1), .int (u.2.2.1)])), (hh, .inl (tc 0, 48, .inl (u.2.2.2)))]) u) t) (va_A [(h0, .inr (0, [.ref hh, .int count, .int free, .int dirty])), (hh, .inl (tc 0, 48, .inl holds))] sz)) 0 0 (va_A [(h0, .inr (0, [.ref hh, .int count, .int free, .int dirty])), (hh, .inl (tc 0, 48, .inl holds))] sz) := by
  refine fc_ofWv (own := RX0) (cc := cX0_begin) (maxL := 3) (W1 := (fun (u : Int32 × Int32 × Int32 × (Nat → Int32)) => [(h0, .inr (0, [.ref hh, .int (u.1), .int (u.2.1), .int (u.2.2.1)])), (hh, .inl (tc 0, 48, .inl (u.2.2.2)))])) rfl (by decide) rfl (Nat.le_of_ble_eq_true rfl) ?_
  intro p e s m args below meth c A Q hx hb hml hown hts hK hE hP hD hS hA hin hret ls hl
  have hl : lv_has ls 3 [(0, .ref h0), (1, .int p0)] := hl
  refine lv_iconst (v := 0) hx hb dX0_begin_0 (by decide) ?_
  refine lv_istore_n (lv' := [(2, .int 0), (0, .ref h0), (1, .int p0)]) hx hb dX0_begin_1 rfl hl (by decide) rfl (fun ls hl => ?_)
  have loop_2 : ∀ (k_2 : Nat) (i_2 : Nat) (x2h2 : Int32) (holdsh2 : Nat → Int32) (hb_2 : x2h2 = nI i_2) (hm_2 : i_2 ≤ 48 ∧ 48 < i_2 + k_2) (hI_2 : mX0_begin holds count free dirty p0 = mX0_begin_L2 count free dirty p0 k_2 x2h2 holdsh2) (H : Heap) (locs : List Loc), va_P D vwCl [(h0, .inr (0, [.ref hh, .int count, .int free, .int dirty])), (hh, .inl (tc 0, 48, .inl holdsh2))] H → va_D A [(h0, .inr (0, [.ref hh, .int count, .int free, .int dirty])), (hh, .inl (tc 0, 48, .inl holdsh2))] → va_S A s.heap H locs → ∀ ls : Array Slot, lv_has ls 3 [(2, .int x2h2), (0, .ref h0), (1, .int p0)] → W p l e rmX0_begin s m args below meth c H locs 0 0 Q (F0 m 2 ls []) := by
    intro k_2
    induction k_2 with
    | zero =>
      intro i_2 x2h2 holdsh2 hb_2 hm_2 hI_2 H locs hP hD hS ls hl
      exact absurd hm_2 (by omega)
    | succ k_2 ih_2 =>
      intro i_2 x2h2 holdsh2 hb_2 hm_2 hI_2 H locs hP hD hS ls hl
      have zz_2 := fc_nI (n := i_2) (by omega)
      rw [← hb_2] at zz_2
      refine lv_iload_n hx hb dX0_begin_2 rfl (lv_at hl 0 rfl) ?_
      refine lv_bipush (v := 48) hx hb dX0_begin_3 (by decide) ?_
      refine lv_icmp_ge (tgt := 21) hx hb dX0_begin_5 (by decide) (fun c_1 => ?_) (fun c_1 => ?_)
      · refine lv_aload_n hx hb dX0_begin_21 rfl (lv_at hl 1 rfl) ?_
        refine lv_iload_n hx hb dX0_begin_22 rfl (lv_at hl 2 rfl) ?_
        refine va_put (D := D) (ci := 0) (v := .int p0) (ty := .int) (C := RX0) (T := TX0) (N := 4) hx hb hts iX0_begin_X0 tyX0 tyX0_ok nmX0 hown hK hP hD hS 0 rfl rfl 1 (by decide) (hts (.fieldLink RX0 15 "FrameCard$Blocks" "count" "I") (by decide +kernel)) (fun _ h9 => h9) rfl (by decide +kernel) rfl rfl (Nat.le_of_ble_eq_true rfl) dX0_begin_23 (fun H locs hP hD hS => ?_)
        have hP : va_P D vwCl [(h0, .inr (0, [.ref hh, .int p0, .int free, .int dirty])), (hh, .inl (tc 0, 48, .inl holdsh2))] H := hP
        have hD : va_D A [(h0, .inr (0, [.ref hh, .int p0, .int free, .int dirty])), (hh, .inl (tc 0, 48, .inl holdsh2))] := hD
        refine lv_aload_n hx hb dX0_begin_26 rfl (lv_at hl 1 rfl) ?_
        refine lv_iload_n hx hb dX0_begin_27 rfl (lv_at hl 2 rfl) ?_
        refine va_put (D := D) (ci := 0) (v := .int p0) (ty := .int) (C := RX0) (T := TX0) (N := 4) hx hb hts iX0_begin_X0 tyX0 tyX0_ok nmX0 hown hK hP hD hS 0 rfl rfl 2 (by decide) (hts (.fieldLink RX0 19 "FrameCard$Blocks" "free" "I") (by decide +kernel)) (fun _ h9 => h9) rfl (by decide +kernel) rfl rfl (Nat.le_of_ble_eq_true rfl) dX0_begin_28 (fun H locs hP hD hS => ?_)
        have hP : va_P D vwCl [(h0, .inr (0, [.ref hh, .int p0, .int p0, .int dirty])), (hh, .inl (tc 0, 48, .inl holdsh2))] H := hP
        have hD : va_D A [(h0, .inr (0, [.ref hh, .int p0, .int p0, .int dirty])), (hh, .inl (tc 0, 48, .inl holdsh2))] := hD
        refine lv_aload_n hx hb dX0_begin_31 rfl (lv_at hl 1 rfl) ?_
        refine lv_iconst (v := 0) hx hb dX0_begin_32 (by decide) ?_
        refine va_put (D := D) (ci := 0) (v := .int 0) (ty := .int) (C := RX0) (T := TX0) (N := 4) hx hb hts iX0_begin_X0 tyX0 tyX0_ok nmX0 hown hK hP hD hS 0 rfl rfl 3 (by decide) (hts (.fieldLink RX0 22 "FrameCard$Blocks" "dirty" "I") (by decide +kernel)) (fun _ h9 => h9) rfl (by decide +kernel) rfl rfl (Nat.le_of_ble_eq_true rfl) dX0_begin_33 (fun H locs hP hD hS => ?_)
        have hP : va_P D vwCl [(h0, .inr (0, [.ref hh, .int p0, .int p0, .int 0])), (hh, .inl (tc 0, 48, .inl holdsh2))] H := hP
        have hD : va_D A [(h0, .inr (0, [.ref hh, .int p0, .int p0, .int 0])), (hh, .inl (tc 0, 48, .inl holdsh2))] := hD
        exact hret _ _ (p0, p0, 0, holdsh2) _ _ (by rw [hI_2, mX0_begin_L2_s, mX0_begin_S2]; (try dsimp only); rw [if_pos c_1]; (first | done | rfl)) (hP.sub [0, 1] rfl) (hD.sub [0, 1] (by decide) rfl) hS dX0_begin_36
      · refine lv_aload_n hx hb dX0_begin_8 rfl (lv_at hl 1 rfl) ?_
        refine va_get (D := D) (ci := 0) (v := .ref hh) (C := RX0) (T := TX0) (N := 4) hx hb hts iX0_begin_X0 hown hK hP 0 rfl rfl 0 (by decide) (hts (.fieldLink RX0 9 "FrameCard$Blocks" "holds" "[I") (by decide +kernel)) (fun _ h9 => h9) rfl dX0_begin_9 ?_
        refine lv_iload_n hx hb dX0_begin_12 rfl (lv_at hl 0 rfl) ?_
        refine lv_iconst (v := (-1)) hx hb dX0_begin_13 (by decide) ?_
        refine va_iast (D := D) hx hb hK hP hD hS 1 0 rfl rfl (by have l_48 : (48 : Int32).toInt = 48 := (by decide); have qc_1 := c_1; (try simp only [fc_le, fc_lt, fc_eq] at qc_1); rw [vp_in_iff]; omega) dX0_begin_14 (fun H locs hP hD hS => ?_)
        have hP : va_P D vwCl [(h0, .inr (0, [.ref hh, .int count, .int free, .int dirty])), (hh, .inl (tc 0, 48, .inl (upd holdsh2 x2h2.toNatClampNeg (-1))))] H := hP
        have hD : va_D A [(h0, .inr (0, [.ref hh, .int count, .int free, .int dirty])), (hh, .inl (tc 0, 48, .inl (upd holdsh2 x2h2.toNatClampNeg (-1))))] := hD
        refine lv_iinc (v := (x2h2 + 1)) (lv' := [(2, .int (x2h2 + 1)), (0, .ref h0), (1, .int p0)]) hx hb dX0_begin_15 hl (k := 0) rfl rfl (by decide) rfl (fun ls hl => ?_)
        refine lv_goto (tgt := 2) hx hb dX0_begin_18 (by decide) ?_
        exact ih_2 (i_2 + 1) (x2h2 + 1) (upd holdsh2 x2h2.toNatClampNeg (-1)) (by rw [hb_2]; exact nI_1 _) (by have l_48 : (48 : Int32).toInt = 48 := (by decide); have qc_1 := c_1; (try simp only [fc_le, fc_lt, fc_eq] at qc_1); skip; omega) (by rw [hI_2, mX0_begin_L2_s, mX0_begin_S2]; (try dsimp only); rw [if_neg c_1]; (first | done | rfl)) _ _ (hP.sub [0, 1] rfl) (hD.sub [0, 1] (by decide) rfl) hS ls (lv_sub hl [0, 1, 2] rfl)
  exact loop_2 49 0 0 holds nI_0.symm (by omega) (by rw [mX0_begin]; (first | done | rfl)) _ _ (hP.sub [0, 1] rfl) (hD.sub [0, 1] (by decide) rfl) hS ls (lv_sub hl [0, 1, 2] rfl)
noncomputable def mX0_get (holds : Nat → Int32) (count : Int32) (free : Int32) (dirty : Int32) (p0 : Int32) : Int32 :=
  if p0 < 0 then
    (-1)
  else
    if 48 ≤ p0 then
      (-1)
    else
      (holds p0.toNatClampNeg)
set_option maxRecDepth 20000 in
theorem iX0_get_X0 : ∀ w ∈ wsX00, w ∈ wsX0_get := by decide +kernel
abbrev rmX0_get : Room := { frames := 0, cells := 0, slots := 0, locals := 0 }
set_option maxHeartbeats 4000000 in
set_option maxRecDepth 100000 in
theorem c_X0_get (l : Launch) (D : va_G) (tc : Nat → ClassId) (h0 : Nat) (hh : Nat) (holds : Nat → Int32) (count : Int32) (free : Int32) (dirty : Int32) (p0 : Int32) (sz : Nat) : Met l yX0_get wsX0_get rmX0_get (va_Pc [.ref h0, .int p0] (fcB D tc [(h0, .inr (0, [.ref hh, .int count, .int free, .int dirty])), (hh, .inl (tc 0, 48, .inl holds))] sz)) (va_Qi (fun (r : Int32) (_ : Unit) => mX0_get holds count free dirty p0 = r) (fun u t => fcO D (va_A [(h0, .inr (0, [.ref hh, .int count, .int free, .int dirty])), (hh, .inl (tc 0, 48, .inl holds))] sz) ((fun (_ : Unit) => [(h0, .inr (0, [.ref hh, .int count, .int free, .int dirty])), (hh, .inl (tc 0, 48, .inl holds))]) u) t) (va_A [(h0, .inr (0, [.ref hh, .int count, .int free, .int dirty])), (hh, .inl (tc 0, 48, .inl holds))] sz)) 0 0 (va_A [(h0, .inr (0, [.ref hh, .int count, .int free, .int dirty])), (hh, .inl (tc 0, 48, .inl holds))] sz) := by
  refine fc_ofWi (own := RX0) (cc := cX0_get) (maxL := 2) (W1 := (fun (_ : Unit) => [(h0, .inr (0, [.ref hh, .int count, .int free, .int dirty])), (hh, .inl (tc 0, 48, .inl holds))])) rfl (by decide) rfl (Nat.le_of_ble_eq_true rfl) ?_
  intro p e s m args below meth c A Q hx hb hml hown hts hK hE hP hD hS hA hin hret ls hl
  have hl : lv_has ls 2 [(0, .ref h0), (1, .int p0)] := hl
  refine lv_iload_n hx hb dX0_get_0 rfl (lv_at hl 1 rfl) ?_
  refine lv_if_lt (tgt := 19) hx hb dX0_get_1 (by decide) (fun c_1 => ?_) (fun c_1 => ?_)
  · refine lv_iconst (v := (-1)) hx hb dX0_get_19 (by decide) ?_
    exact hret _ _ (-1) () _ _ (by rw [mX0_get]; (try dsimp only); rw [if_pos c_1]; (first | done | rfl)) (hP.sub [0, 1] rfl) (hD.sub [0, 1] (by decide) rfl) hS dX0_get_20
  · refine lv_iload_n hx hb dX0_get_4 rfl (lv_at hl 1 rfl) ?_
    refine lv_bipush (v := 48) hx hb dX0_get_5 (by decide) ?_
    refine lv_icmp_ge (tgt := 19) hx hb dX0_get_7 (by decide) (fun c_2 => ?_) (fun c_2 => ?_)
    · refine lv_iconst (v := (-1)) hx hb dX0_get_19 (by decide) ?_
      exact hret _ _ (-1) () _ _ (by rw [mX0_get]; (try dsimp only); rw [if_neg c_1]; rw [if_pos c_2]; (first | done | rfl)) (hP.sub [0, 1] rfl) (hD.sub [0, 1] (by decide) rfl) hS dX0_get_20
    · refine lv_aload_n hx hb dX0_get_10 rfl (lv_at hl 0 rfl) ?_
      refine va_get (D := D) (ci := 0) (v := .ref hh) (C := RX0) (T := TX0) (N := 4) hx hb hts iX0_get_X0 hown hK hP 0 rfl rfl 0 (by decide) (hts (.fieldLink RX0 9 "FrameCard$Blocks" "holds" "[I") (by decide +kernel)) (fun _ h9 => h9) rfl dX0_get_11 ?_
      refine lv_iload_n hx hb dX0_get_14 rfl (lv_at hl 1 rfl) ?_
      refine va_iald (D := D) hx hb hK hP 1 0 rfl rfl (by have l_0 : (0 : Int32).toInt = 0 := (by decide); have l_48 : (48 : Int32).toInt = 48 := (by decide); have qc_1 := c_1; (try simp only [fc_le, fc_lt, fc_eq] at qc_1); have qc_2 := c_2; (try simp only [fc_le, fc_lt, fc_eq] at qc_2); rw [vp_in_iff]; omega) dX0_get_15 ?_
      refine lv_goto (tgt := 20) hx hb dX0_get_16 (by decide) ?_
      exact hret _ _ (holds p0.toNatClampNeg) () _ _ (by rw [mX0_get]; (try dsimp only); rw [if_neg c_1]; rw [if_neg c_2]; (first | done | rfl)) (hP.sub [0, 1] rfl) (hD.sub [0, 1] (by decide) rfl) hS dX0_get_20
noncomputable def mX0_clean_S4 (count : Int32) (p0 : Int32) (ih_4 : Int32 → Int32 → Int32 → Int32 → (Nat → Int32) → Int32 × Int32 × (Nat → Int32)) (x2h4 : Int32) (x3h4 : Int32) (freeh4 : Int32) (dirtyh4 : Int32) (holdsh4 : Nat → Int32) : Int32 × Int32 × (Nat → Int32) :=
  if 48 ≤ x3h4 then
    (freeh4, dirtyh4, holdsh4)
  else
    if x2h4 ≤ 0 then
      (freeh4, dirtyh4, holdsh4)
    else
      if dirtyh4 ≤ 0 then
        (freeh4, dirtyh4, holdsh4)
      else
        if (holdsh4 x3h4.toNatClampNeg) = (-2) then
          ih_4 (x2h4 + (-1)) (x3h4 + 1) (freeh4 + 1) (dirtyh4 - 1) (upd holdsh4 x3h4.toNatClampNeg (-1))
        else
          ih_4 x2h4 (x3h4 + 1) freeh4 dirtyh4 holdsh4
noncomputable def mX0_clean_L4 (count : Int32) (p0 : Int32) (k : Nat) : Int32 → Int32 → Int32 → Int32 → (Nat → Int32) → Int32 × Int32 × (Nat → Int32) := Nat.rec (motive := fun _ => Int32 → Int32 → Int32 → Int32 → (Nat → Int32) → Int32 × Int32 × (Nat → Int32)) (fun x2h4 x3h4 freeh4 dirtyh4 holdsh4 => (freeh4, dirtyh4, holdsh4)) (fun _ ih => mX0_clean_S4 count p0 ih) k
theorem mX0_clean_L4_z (count : Int32) (p0 : Int32) (x2h4 : Int32) (x3h4 : Int32) (freeh4 : Int32) (dirtyh4 : Int32) (holdsh4 : Nat → Int32) : mX0_clean_L4 count p0 0 x2h4 x3h4 freeh4 dirtyh4 holdsh4 = (freeh4, dirtyh4, holdsh4) := rfl
theorem mX0_clean_L4_s (count : Int32) (p0 : Int32) (k : Nat) (x2h4 : Int32) (x3h4 : Int32) (freeh4 : Int32) (dirtyh4 : Int32) (holdsh4 : Nat → Int32) : mX0_clean_L4 count p0 (k + 1) x2h4 x3h4 freeh4 dirtyh4 holdsh4 = mX0_clean_S4 count p0 (mX0_clean_L4 count p0 k) x2h4 x3h4 freeh4 dirtyh4 holdsh4 := rfl
noncomputable def mX0_clean (holds : Nat → Int32) (count : Int32) (free : Int32) (dirty : Int32) (p0 : Int32) : Int32 × Int32 × (Nat → Int32) :=
  mX0_clean_L4 count p0 49 p0 0 free dirty holds
set_option maxRecDepth 20000 in
theorem iX0_clean_X0 : ∀ w ∈ wsX00, w ∈ wsX0_clean := by decide +kernel
abbrev rmX0_clean : Room := { frames := 0, cells := 0, slots := 0, locals := 0 }
set_option maxHeartbeats 4000000 in
set_option maxRecDepth 100000 in
theorem c_X0_clean (l : Launch) (D : va_G) (tc : Nat → ClassId) (h0 : Nat) (hh : Nat) (holds : Nat → Int32) (count : Int32) (free : Int32) (dirty : Int32) (p0 : Int32) (sz : Nat) : Met l yX0_clean wsX0_clean rmX0_clean (va_Pc [.ref h0, .int p0] (fcB D tc [(h0, .inr (0, [.ref hh, .int count, .int free, .int dirty])), (hh, .inl (tc 0, 48, .inl holds))] sz)) (va_Qv (fun (u : Int32 × Int32 × (Nat → Int32)) => mX0_clean holds count free dirty p0 = u) (fun u t => fcO D (va_A [(h0, .inr (0, [.ref hh, .int count, .int free, .int dirty])), (hh, .inl (tc 0, 48, .inl holds))] sz) ((fun (u : Int32 × Int32 × (Nat → Int32)) => [(h0, .inr (0, [.ref hh, .int count, .int (u.1), .int (u.2.1)])), (hh, .inl (tc 0, 48, .inl (u.2.2)))]) u) t) (va_A [(h0, .inr (0, [.ref hh, .int count, .int free, .int dirty])), (hh, .inl (tc 0, 48, .inl holds))] sz)) 0 0 (va_A [(h0, .inr (0, [.ref hh, .int count, .int free, .int dirty])), (hh, .inl (tc 0, 48, .inl holds))] sz) := by
  refine fc_ofWv (own := RX0) (cc := cX0_clean) (maxL := 4) (W1 := (fun (u : Int32 × Int32 × (Nat → Int32)) => [(h0, .inr (0, [.ref hh, .int count, .int (u.1), .int (u.2.1)])), (hh, .inl (tc 0, 48, .inl (u.2.2)))])) rfl (by decide) rfl (Nat.le_of_ble_eq_true rfl) ?_
  intro p e s m args below meth c A Q hx hb hml hown hts hK hE hP hD hS hA hin hret ls hl
  have hl : lv_has ls 4 [(0, .ref h0), (1, .int p0)] := hl
  refine lv_iload_n hx hb dX0_clean_0 rfl (lv_at hl 1 rfl) ?_
  refine lv_istore_n (lv' := [(2, .int p0), (0, .ref h0), (1, .int p0)]) hx hb dX0_clean_1 rfl hl (by decide) rfl (fun ls hl => ?_)
  refine lv_iconst (v := 0) hx hb dX0_clean_2 (by decide) ?_
  refine lv_istore_n (lv' := [(3, .int 0), (2, .int p0), (0, .ref h0), (1, .int p0)]) hx hb dX0_clean_3 rfl hl (by decide) rfl (fun ls hl => ?_)
  have loop_4 : ∀ (k_4 : Nat) (i_4 : Nat) (x2h4 : Int32) (x3h4 : Int32) (freeh4 : Int32) (dirtyh4 : Int32) (holdsh4 : Nat → Int32) (hb_4 : x3h4 = nI i_4) (hm_4 : i_4 ≤ 48 ∧ 48 < i_4 + k_4) (hI_4 : mX0_clean holds count free dirty p0 = mX0_clean_L4 count p0 k_4 x2h4 x3h4 freeh4 dirtyh4 holdsh4) (H : Heap) (locs : List Loc), va_P D vwCl [(h0, .inr (0, [.ref hh, .int count, .int freeh4, .int dirtyh4])), (hh, .inl (tc 0, 48, .inl holdsh4))] H → va_D A [(h0, .inr (0, [.ref hh, .int count, .int freeh4, .int dirtyh4])), (hh, .inl (tc 0, 48, .inl holdsh4))] → va_S A s.heap H locs → ∀ ls : Array Slot, lv_has ls 4 [(3, .int x3h4), (2, .int x2h4), (0, .ref h0), (1, .int p0)] → W p l e rmX0_clean s m args below meth c H locs 0 0 Q (F0 m 4 ls []) := by
    intro k_4
    induction k_4 with
    | zero =>
      intro i_4 x2h4 x3h4 freeh4 dirtyh4 holdsh4 hb_4 hm_4 hI_4 H locs hP hD hS ls hl
      exact absurd hm_4 (by omega)
    | succ k_4 ih_4 =>
      intro i_4 x2h4 x3h4 freeh4 dirtyh4 holdsh4 hb_4 hm_4 hI_4 H locs hP hD hS ls hl
      have zz_4 := fc_nI (n := i_4) (by omega)
      rw [← hb_4] at zz_4
      refine lv_iload_n hx hb dX0_clean_4 rfl (lv_at hl 0 rfl) ?_
      refine lv_bipush (v := 48) hx hb dX0_clean_5 (by decide) ?_
      refine lv_icmp_ge (tgt := 68) hx hb dX0_clean_7 (by decide) (fun c_1 => ?_) (fun c_1 => ?_)
      · exact hret _ _ (freeh4, dirtyh4, holdsh4) _ _ (by rw [hI_4, mX0_clean_L4_s, mX0_clean_S4]; (try dsimp only); rw [if_pos c_1]; (first | done | rfl)) (hP.sub [0, 1] rfl) (hD.sub [0, 1] (by decide) rfl) hS dX0_clean_68
      · refine lv_iload_n hx hb dX0_clean_10 rfl (lv_at hl 1 rfl) ?_
        refine lv_if_le (tgt := 68) hx hb dX0_clean_11 (by decide) (fun c_2 => ?_) (fun c_2 => ?_)
        · exact hret _ _ (freeh4, dirtyh4, holdsh4) _ _ (by rw [hI_4, mX0_clean_L4_s, mX0_clean_S4]; (try dsimp only); rw [if_neg c_1]; rw [if_pos c_2]; (first | done | rfl)) (hP.sub [0, 1] rfl) (hD.sub [0, 1] (by decide) rfl) hS dX0_clean_68
        · refine lv_aload_n hx hb dX0_clean_14 rfl (lv_at hl 2 rfl) ?_
          refine va_get (D := D) (ci := 0) (v := .int dirtyh4) (C := RX0) (T := TX0) (N := 4) hx hb hts iX0_clean_X0 hown hK hP 0 rfl rfl 3 (by decide) (hts (.fieldLink RX0 22 "FrameCard$Blocks" "dirty" "I") (by decide +kernel)) (fun _ h9 => h9) rfl dX0_clean_15 ?_
          refine lv_if_le (tgt := 68) hx hb dX0_clean_18 (by decide) (fun c_3 => ?_) (fun c_3 => ?_)
          · exact hret _ _ (freeh4, dirtyh4, holdsh4) _ _ (by rw [hI_4, mX0_clean_L4_s, mX0_clean_S4]; (try dsimp only); rw [if_neg c_1]; rw [if_neg c_2]; rw [if_pos c_3]; (first | done | rfl)) (hP.sub [0, 1] rfl) (hD.sub [0, 1] (by decide) rfl) hS dX0_clean_68
          · refine lv_aload_n hx hb dX0_clean_21 rfl (lv_at hl 2 rfl) ?_
            refine va_get (D := D) (ci := 0) (v := .ref hh) (C := RX0) (T := TX0) (N := 4) hx hb hts iX0_clean_X0 hown hK hP 0 rfl rfl 0 (by decide) (hts (.fieldLink RX0 9 "FrameCard$Blocks" "holds" "[I") (by decide +kernel)) (fun _ h9 => h9) rfl dX0_clean_22 ?_
            refine lv_iload_n hx hb dX0_clean_25 rfl (lv_at hl 0 rfl) ?_
            refine va_iald (D := D) hx hb hK hP 1 0 rfl rfl (by have l_0 : (0 : Int32).toInt = 0 := (by decide); have l_48 : (48 : Int32).toInt = 48 := (by decide); have qc_1 := c_1; (try simp only [fc_le, fc_lt, fc_eq] at qc_1); have qc_2 := c_2; (try simp only [fc_le, fc_lt, fc_eq] at qc_2); have qc_3 := c_3; (try simp only [fc_le, fc_lt, fc_eq] at qc_3); rw [vp_in_iff]; omega) dX0_clean_26 ?_
            refine lv_bipush (v := (-2)) hx hb dX0_clean_27 (by decide) ?_
            refine lv_icmp_ne (tgt := 62) hx hb dX0_clean_29 (by decide) (fun c_4 => ?_) (fun c_4 => ?_)
            · refine lv_iinc (v := (x3h4 + 1)) (lv' := [(3, .int (x3h4 + 1)), (2, .int x2h4), (0, .ref h0), (1, .int p0)]) hx hb dX0_clean_62 hl (k := 0) rfl rfl (by decide) rfl (fun ls hl => ?_)
              refine lv_goto (tgt := 4) hx hb dX0_clean_65 (by decide) ?_
              exact ih_4 (i_4 + 1) x2h4 (x3h4 + 1) freeh4 dirtyh4 holdsh4 (by rw [hb_4]; exact nI_1 _) (by have l_mm2m : ((-2) : Int32).toInt = (-2) := (by decide); have l_0 : (0 : Int32).toInt = 0 := (by decide); have l_48 : (48 : Int32).toInt = 48 := (by decide); have qc_1 := c_1; (try simp only [fc_le, fc_lt, fc_eq] at qc_1); have qc_2 := c_2; (try simp only [fc_le, fc_lt, fc_eq] at qc_2); have qc_3 := c_3; (try simp only [fc_le, fc_lt, fc_eq] at qc_3); have qc_4 := c_4; (try simp only [fc_le, fc_lt, fc_eq] at qc_4); skip; omega) (by rw [hI_4, mX0_clean_L4_s, mX0_clean_S4]; (try dsimp only); rw [if_neg c_1]; rw [if_neg c_2]; rw [if_neg c_3]; rw [if_neg c_4]; (first | done | rfl)) _ _ (hP.sub [0, 1] rfl) (hD.sub [0, 1] (by decide) rfl) hS ls (lv_sub hl [0, 1, 2, 3] rfl)
            · refine lv_aload_n hx hb dX0_clean_32 rfl (lv_at hl 2 rfl) ?_
              refine va_get (D := D) (ci := 0) (v := .ref hh) (C := RX0) (T := TX0) (N := 4) hx hb hts iX0_clean_X0 hown hK hP 0 rfl rfl 0 (by decide) (hts (.fieldLink RX0 9 "FrameCard$Blocks" "holds" "[I") (by decide +kernel)) (fun _ h9 => h9) rfl dX0_clean_33 ?_
              refine lv_iload_n hx hb dX0_clean_36 rfl (lv_at hl 0 rfl) ?_
              refine lv_iconst (v := (-1)) hx hb dX0_clean_37 (by decide) ?_
              refine va_iast (D := D) hx hb hK hP hD hS 1 0 rfl rfl (by have l_mm2m : ((-2) : Int32).toInt = (-2) := (by decide); have l_0 : (0 : Int32).toInt = 0 := (by decide); have l_48 : (48 : Int32).toInt = 48 := (by decide); have qc_1 := c_1; (try simp only [fc_le, fc_lt, fc_eq] at qc_1); have qc_2 := c_2; (try simp only [fc_le, fc_lt, fc_eq] at qc_2); have qc_3 := c_3; (try simp only [fc_le, fc_lt, fc_eq] at qc_3); have qc_4 := c_4; (try simp only [fc_le, fc_lt, fc_eq] at qc_4); rw [vp_in_iff]; omega) dX0_clean_38 (fun H locs hP hD hS => ?_)
              have hP : va_P D vwCl [(h0, .inr (0, [.ref hh, .int count, .int freeh4, .int dirtyh4])), (hh, .inl (tc 0, 48, .inl (upd holdsh4 x3h4.toNatClampNeg (-1))))] H := hP
              have hD : va_D A [(h0, .inr (0, [.ref hh, .int count, .int freeh4, .int dirtyh4])), (hh, .inl (tc 0, 48, .inl (upd holdsh4 x3h4.toNatClampNeg (-1))))] := hD
              refine lv_aload_n hx hb dX0_clean_39 rfl (lv_at hl 2 rfl) ?_
              refine lv_dup hx hb dX0_clean_40 rfl ?_
              refine va_get (D := D) (ci := 0) (v := .int dirtyh4) (C := RX0) (T := TX0) (N := 4) hx hb hts iX0_clean_X0 hown hK hP 0 rfl rfl 3 (by decide) (hts (.fieldLink RX0 22 "FrameCard$Blocks" "dirty" "I") (by decide +kernel)) (fun _ h9 => h9) rfl dX0_clean_41 ?_
              refine lv_iconst (v := 1) hx hb dX0_clean_44 (by decide) ?_
              refine lv_isub hx hb dX0_clean_45 ?_
              refine va_put (D := D) (ci := 0) (v := .int (dirtyh4 - 1)) (ty := .int) (C := RX0) (T := TX0) (N := 4) hx hb hts iX0_clean_X0 tyX0 tyX0_ok nmX0 hown hK hP hD hS 0 rfl rfl 3 (by decide) (hts (.fieldLink RX0 22 "FrameCard$Blocks" "dirty" "I") (by decide +kernel)) (fun _ h9 => h9) rfl (by decide +kernel) rfl rfl (Nat.le_of_ble_eq_true rfl) dX0_clean_46 (fun H locs hP hD hS => ?_)
              have hP : va_P D vwCl [(h0, .inr (0, [.ref hh, .int count, .int freeh4, .int (dirtyh4 - 1)])), (hh, .inl (tc 0, 48, .inl (upd holdsh4 x3h4.toNatClampNeg (-1))))] H := hP
              have hD : va_D A [(h0, .inr (0, [.ref hh, .int count, .int freeh4, .int (dirtyh4 - 1)])), (hh, .inl (tc 0, 48, .inl (upd holdsh4 x3h4.toNatClampNeg (-1))))] := hD
              refine lv_aload_n hx hb dX0_clean_49 rfl (lv_at hl 2 rfl) ?_
              refine lv_dup hx hb dX0_clean_50 rfl ?_
              refine va_get (D := D) (ci := 0) (v := .int freeh4) (C := RX0) (T := TX0) (N := 4) hx hb hts iX0_clean_X0 hown hK hP 0 rfl rfl 2 (by decide) (hts (.fieldLink RX0 19 "FrameCard$Blocks" "free" "I") (by decide +kernel)) (fun _ h9 => h9) rfl dX0_clean_51 ?_
              refine lv_iconst (v := 1) hx hb dX0_clean_54 (by decide) ?_
              refine lv_iadd hx hb dX0_clean_55 ?_
              refine va_put (D := D) (ci := 0) (v := .int (freeh4 + 1)) (ty := .int) (C := RX0) (T := TX0) (N := 4) hx hb hts iX0_clean_X0 tyX0 tyX0_ok nmX0 hown hK hP hD hS 0 rfl rfl 2 (by decide) (hts (.fieldLink RX0 19 "FrameCard$Blocks" "free" "I") (by decide +kernel)) (fun _ h9 => h9) rfl (by decide +kernel) rfl rfl (Nat.le_of_ble_eq_true rfl) dX0_clean_56 (fun H locs hP hD hS => ?_)
              have hP : va_P D vwCl [(h0, .inr (0, [.ref hh, .int count, .int (freeh4 + 1), .int (dirtyh4 - 1)])), (hh, .inl (tc 0, 48, .inl (upd holdsh4 x3h4.toNatClampNeg (-1))))] H := hP
              have hD : va_D A [(h0, .inr (0, [.ref hh, .int count, .int (freeh4 + 1), .int (dirtyh4 - 1)])), (hh, .inl (tc 0, 48, .inl (upd holdsh4 x3h4.toNatClampNeg (-1))))] := hD
              refine lv_iinc (v := (x2h4 + (-1))) (lv' := [(2, .int (x2h4 + (-1))), (3, .int x3h4), (0, .ref h0), (1, .int p0)]) hx hb dX0_clean_59 hl (k := 1) rfl rfl (by decide) rfl (fun ls hl => ?_)
              refine lv_iinc (v := (x3h4 + 1)) (lv' := [(3, .int (x3h4 + 1)), (2, .int (x2h4 + (-1))), (0, .ref h0), (1, .int p0)]) hx hb dX0_clean_62 hl (k := 1) rfl rfl (by decide) rfl (fun ls hl => ?_)
              refine lv_goto (tgt := 4) hx hb dX0_clean_65 (by decide) ?_
              exact ih_4 (i_4 + 1) (x2h4 + (-1)) (x3h4 + 1) (freeh4 + 1) (dirtyh4 - 1) (upd holdsh4 x3h4.toNatClampNeg (-1)) (by rw [hb_4]; exact nI_1 _) (by have l_mm2m : ((-2) : Int32).toInt = (-2) := (by decide); have l_0 : (0 : Int32).toInt = 0 := (by decide); have l_48 : (48 : Int32).toInt = 48 := (by decide); have qc_1 := c_1; (try simp only [fc_le, fc_lt, fc_eq] at qc_1); have qc_2 := c_2; (try simp only [fc_le, fc_lt, fc_eq] at qc_2); have qc_3 := c_3; (try simp only [fc_le, fc_lt, fc_eq] at qc_3); have qc_4 := c_4; (try simp only [fc_le, fc_lt, fc_eq] at qc_4); skip; omega) (by rw [hI_4, mX0_clean_L4_s, mX0_clean_S4]; (try dsimp only); rw [if_neg c_1]; rw [if_neg c_2]; rw [if_neg c_3]; rw [if_pos c_4]; (first | done | rfl)) _ _ (hP.sub [0, 1] rfl) (hD.sub [0, 1] (by decide) rfl) hS ls (lv_sub hl [0, 1, 2, 3] rfl)
  exact loop_4 49 0 p0 0 free dirty holds nI_0.symm (by omega) (by rw [mX0_clean]; (first | done | rfl)) _ _ (hP.sub [0, 1] rfl) (hD.sub [0, 1] (by decide) rfl) hS ls (lv_sub hl [0, 1, 2, 3] rfl)
noncomputable def mX0_take_S8 (count : Int32) (dirty : Int32) (p0 : Int32) (p1 : Int32) (ih_8 : Int32 → Int32 → Int32 → Int32 → (Nat → Int32) → Int32 × Int32 × (Nat → Int32)) (x3h8 : Int32) (x4h8 : Int32) (x5h8 : Int32) (freeh8 : Int32) (holdsh8 : Nat → Int32) : Int32 × Int32 × (Nat → Int32) :=
  if 48 ≤ x5h8 then
    (x3h8, freeh8, holdsh8)
  else
    if count ≤ x5h8 then
      (x3h8, freeh8, holdsh8)
    else
      if x4h8 ≤ 0 then
        (x3h8, freeh8, holdsh8)
      else
        if (holdsh8 x5h8.toNatClampNeg) = (-1) then
          if x3h8 = (-1) then
            ih_8 x5h8 (x4h8 + (-1)) (x5h8 + 1) (freeh8 - 1) (upd holdsh8 x5h8.toNatClampNeg p0)
          else
            ih_8 x3h8 (x4h8 + (-1)) (x5h8 + 1) (freeh8 - 1) (upd holdsh8 x5h8.toNatClampNeg p0)
        else
          ih_8 x3h8 x4h8 (x5h8 + 1) freeh8 holdsh8
noncomputable def mX0_take_L8 (count : Int32) (dirty : Int32) (p0 : Int32) (p1 : Int32) (k : Nat) : Int32 → Int32 → Int32 → Int32 → (Nat → Int32) → Int32 × Int32 × (Nat → Int32) := Nat.rec (motive := fun _ => Int32 → Int32 → Int32 → Int32 → (Nat → Int32) → Int32 × Int32 × (Nat → Int32)) (fun x3h8 x4h8 x5h8 freeh8 holdsh8 => (0, freeh8, holdsh8)) (fun _ ih => mX0_take_S8 count dirty p0 p1 ih) k
theorem mX0_take_L8_z (count : Int32) (dirty : Int32) (p0 : Int32) (p1 : Int32) (x3h8 : Int32) (x4h8 : Int32) (x5h8 : Int32) (freeh8 : Int32) (holdsh8 : Nat → Int32) : mX0_take_L8 count dirty p0 p1 0 x3h8 x4h8 x5h8 freeh8 holdsh8 = (0, freeh8, holdsh8) := rfl
theorem mX0_take_L8_s (count : Int32) (dirty : Int32) (p0 : Int32) (p1 : Int32) (k : Nat) (x3h8 : Int32) (x4h8 : Int32) (x5h8 : Int32) (freeh8 : Int32) (holdsh8 : Nat → Int32) : mX0_take_L8 count dirty p0 p1 (k + 1) x3h8 x4h8 x5h8 freeh8 holdsh8 = mX0_take_S8 count dirty p0 p1 (mX0_take_L8 count dirty p0 p1 k) x3h8 x4h8 x5h8 freeh8 holdsh8 := rfl
noncomputable def mX0_take (holds : Nat → Int32) (count : Int32) (free : Int32) (dirty : Int32) (p0 : Int32) (p1 : Int32) : Int32 × Int32 × (Nat → Int32) :=
  mX0_take_L8 count dirty p0 p1 49 (-1) p1 0 free holds
set_option maxRecDepth 20000 in
theorem iX0_take_X0 : ∀ w ∈ wsX00, w ∈ wsX0_take := by decide +kernel
abbrev rmX0_take : Room := { frames := 0, cells := 0, slots := 0, locals := 0 }
set_option maxHeartbeats 4000000 in
set_option maxRecDepth 100000 in
theorem c_X0_take (l : Launch) (D : va_G) (tc : Nat → ClassId) (h0 : Nat) (hh : Nat) (holds : Nat → Int32) (count : Int32) (free : Int32) (dirty : Int32) (p0 : Int32) (p1 : Int32) (sz : Nat) : Met l yX0_take wsX0_take rmX0_take (va_Pc [.ref h0, .int p0, .int p1] (fcB D tc [(h0, .inr (0, [.ref hh, .int count, .int free, .int dirty])), (hh, .inl (tc 0, 48, .inl holds))] sz)) (va_Qi (fun (r : Int32) (u : Int32 × (Nat → Int32)) => mX0_take holds count free dirty p0 p1 = (r, u)) (fun u t => fcO D (va_A [(h0, .inr (0, [.ref hh, .int count, .int free, .int dirty])), (hh, .inl (tc 0, 48, .inl holds))] sz) ((fun (u : Int32 × (Nat → Int32)) => [(h0, .inr (0, [.ref hh, .int count, .int (u.1), .int dirty])), (hh, .inl (tc 0, 48, .inl (u.2)))]) u) t) (va_A [(h0, .inr (0, [.ref hh, .int count, .int free, .int dirty])), (hh, .inl (tc 0, 48, .inl holds))] sz)) 0 0 (va_A [(h0, .inr (0, [.ref hh, .int count, .int free, .int dirty])), (hh, .inl (tc 0, 48, .inl holds))] sz) := by
  refine fc_ofWi (own := RX0) (cc := cX0_take) (maxL := 6) (W1 := (fun (u : Int32 × (Nat → Int32)) => [(h0, .inr (0, [.ref hh, .int count, .int (u.1), .int dirty])), (hh, .inl (tc 0, 48, .inl (u.2)))])) rfl (by decide) rfl (Nat.le_of_ble_eq_true rfl) ?_
  intro p e s m args below meth c A Q hx hb hml hown hts hK hE hP hD hS hA hin hret ls hl
  have hl : lv_has ls 6 [(0, .ref h0), (1, .int p0), (2, .int p1)] := hl
  refine lv_iconst (v := (-1)) hx hb dX0_take_0 (by decide) ?_
  refine lv_istore_n (lv' := [(3, .int (-1)), (0, .ref h0), (1, .int p0), (2, .int p1)]) hx hb dX0_take_1 rfl hl (by decide) rfl (fun ls hl => ?_)
  refine lv_iload_n hx hb dX0_take_2 rfl (lv_at hl 3 rfl) ?_
  refine lv_istore (lv' := [(4, .int p1), (3, .int (-1)), (0, .ref h0), (1, .int p0), (2, .int p1)]) hx hb dX0_take_3 hl (by decide) rfl (fun ls hl => ?_)
  refine lv_iconst (v := 0) hx hb dX0_take_5 (by decide) ?_
  refine lv_istore (lv' := [(5, .int 0), (4, .int p1), (3, .int (-1)), (0, .ref h0), (1, .int p0), (2, .int p1)]) hx hb dX0_take_6 hl (by decide) rfl (fun ls hl => ?_)
  have loop_8 : ∀ (k_8 : Nat) (i_8 : Nat) (x3h8 : Int32) (x4h8 : Int32) (x5h8 : Int32) (freeh8 : Int32) (holdsh8 : Nat → Int32) (hb_8 : x5h8 = nI i_8) (hm_8 : i_8 ≤ 48 ∧ 48 < i_8 + k_8) (hI_8 : mX0_take holds count free dirty p0 p1 = mX0_take_L8 count dirty p0 p1 k_8 x3h8 x4h8 x5h8 freeh8 holdsh8) (H : Heap) (locs : List Loc), va_P D vwCl [(h0, .inr (0, [.ref hh, .int count, .int freeh8, .int dirty])), (hh, .inl (tc 0, 48, .inl holdsh8))] H → va_D A [(h0, .inr (0, [.ref hh, .int count, .int freeh8, .int dirty])), (hh, .inl (tc 0, 48, .inl holdsh8))] → va_S A s.heap H locs → ∀ ls : Array Slot, lv_has ls 6 [(5, .int x5h8), (4, .int x4h8), (3, .int x3h8), (0, .ref h0), (1, .int p0), (2, .int p1)] → W p l e rmX0_take s m args below meth c H locs 0 0 Q (F0 m 8 ls []) := by
    intro k_8
    induction k_8 with
    | zero =>
      intro i_8 x3h8 x4h8 x5h8 freeh8 holdsh8 hb_8 hm_8 hI_8 H locs hP hD hS ls hl
      exact absurd hm_8 (by omega)
    | succ k_8 ih_8 =>
      intro i_8 x3h8 x4h8 x5h8 freeh8 holdsh8 hb_8 hm_8 hI_8 H locs hP hD hS ls hl
      have zz_8 := fc_nI (n := i_8) (by omega)
      rw [← hb_8] at zz_8
      refine lv_iload hx hb dX0_take_8 (lv_at hl 0 rfl) ?_
      refine lv_bipush (v := 48) hx hb dX0_take_10 (by decide) ?_
      refine lv_icmp_ge (tgt := 79) hx hb dX0_take_12 (by decide) (fun c_1 => ?_) (fun c_1 => ?_)
      · refine lv_iload_n hx hb dX0_take_79 rfl (lv_at hl 2 rfl) ?_
        exact hret _ _ (x3h8) (freeh8, holdsh8) _ _ (by rw [hI_8, mX0_take_L8_s, mX0_take_S8]; (try dsimp only); rw [if_pos c_1]; (first | done | rfl)) (hP.sub [0, 1] rfl) (hD.sub [0, 1] (by decide) rfl) hS dX0_take_80
      · refine lv_iload hx hb dX0_take_15 (lv_at hl 0 rfl) ?_
        refine lv_aload_n hx hb dX0_take_17 rfl (lv_at hl 3 rfl) ?_
        refine va_get (D := D) (ci := 0) (v := .int count) (C := RX0) (T := TX0) (N := 4) hx hb hts iX0_take_X0 hown hK hP 0 rfl rfl 1 (by decide) (hts (.fieldLink RX0 15 "FrameCard$Blocks" "count" "I") (by decide +kernel)) (fun _ h9 => h9) rfl dX0_take_18 ?_
        refine lv_icmp_ge (tgt := 79) hx hb dX0_take_21 (by decide) (fun c_2 => ?_) (fun c_2 => ?_)
        · refine lv_iload_n hx hb dX0_take_79 rfl (lv_at hl 2 rfl) ?_
          exact hret _ _ (x3h8) (freeh8, holdsh8) _ _ (by rw [hI_8, mX0_take_L8_s, mX0_take_S8]; (try dsimp only); rw [if_neg c_1]; rw [if_pos c_2]; (first | done | rfl)) (hP.sub [0, 1] rfl) (hD.sub [0, 1] (by decide) rfl) hS dX0_take_80
        · refine lv_iload hx hb dX0_take_24 (lv_at hl 1 rfl) ?_
          refine lv_if_le (tgt := 79) hx hb dX0_take_26 (by decide) (fun c_3 => ?_) (fun c_3 => ?_)
          · refine lv_iload_n hx hb dX0_take_79 rfl (lv_at hl 2 rfl) ?_
            exact hret _ _ (x3h8) (freeh8, holdsh8) _ _ (by rw [hI_8, mX0_take_L8_s, mX0_take_S8]; (try dsimp only); rw [if_neg c_1]; rw [if_neg c_2]; rw [if_pos c_3]; (first | done | rfl)) (hP.sub [0, 1] rfl) (hD.sub [0, 1] (by decide) rfl) hS dX0_take_80
          · refine lv_aload_n hx hb dX0_take_29 rfl (lv_at hl 3 rfl) ?_
            refine va_get (D := D) (ci := 0) (v := .ref hh) (C := RX0) (T := TX0) (N := 4) hx hb hts iX0_take_X0 hown hK hP 0 rfl rfl 0 (by decide) (hts (.fieldLink RX0 9 "FrameCard$Blocks" "holds" "[I") (by decide +kernel)) (fun _ h9 => h9) rfl dX0_take_30 ?_
            refine lv_iload hx hb dX0_take_33 (lv_at hl 0 rfl) ?_
            refine va_iald (D := D) hx hb hK hP 1 0 rfl rfl (by have l_0 : (0 : Int32).toInt = 0 := (by decide); have l_48 : (48 : Int32).toInt = 48 := (by decide); have qc_1 := c_1; (try simp only [fc_le, fc_lt, fc_eq] at qc_1); have qc_2 := c_2; (try simp only [fc_le, fc_lt, fc_eq] at qc_2); have qc_3 := c_3; (try simp only [fc_le, fc_lt, fc_eq] at qc_3); rw [vp_in_iff]; omega) dX0_take_35 ?_
            refine lv_iconst (v := (-1)) hx hb dX0_take_36 (by decide) ?_
            refine lv_icmp_ne (tgt := 73) hx hb dX0_take_37 (by decide) (fun c_4 => ?_) (fun c_4 => ?_)
            · refine lv_iinc (v := (x5h8 + 1)) (lv' := [(5, .int (x5h8 + 1)), (4, .int x4h8), (3, .int x3h8), (0, .ref h0), (1, .int p0), (2, .int p1)]) hx hb dX0_take_73 hl (k := 0) rfl rfl (by decide) rfl (fun ls hl => ?_)
              refine lv_goto (tgt := 8) hx hb dX0_take_76 (by decide) ?_
              exact ih_8 (i_8 + 1) x3h8 x4h8 (x5h8 + 1) freeh8 holdsh8 (by rw [hb_8]; exact nI_1 _) (by have l_mm1m : ((-1) : Int32).toInt = (-1) := (by decide); have l_0 : (0 : Int32).toInt = 0 := (by decide); have l_48 : (48 : Int32).toInt = 48 := (by decide); have qc_1 := c_1; (try simp only [fc_le, fc_lt, fc_eq] at qc_1); have qc_2 := c_2; (try simp only [fc_le, fc_lt, fc_eq] at qc_2); have qc_3 := c_3; (try simp only [fc_le, fc_lt, fc_eq] at qc_3); have qc_4 := c_4; (try simp only [fc_le, fc_lt, fc_eq] at qc_4); skip; omega) (by rw [hI_8, mX0_take_L8_s, mX0_take_S8]; (try dsimp only); rw [if_neg c_1]; rw [if_neg c_2]; rw [if_neg c_3]; rw [if_neg c_4]; (first | done | rfl)) _ _ (hP.sub [0, 1] rfl) (hD.sub [0, 1] (by decide) rfl) hS ls (lv_sub hl [0, 1, 2, 3, 4, 5] rfl)
            · refine lv_aload_n hx hb dX0_take_40 rfl (lv_at hl 3 rfl) ?_
              refine va_get (D := D) (ci := 0) (v := .ref hh) (C := RX0) (T := TX0) (N := 4) hx hb hts iX0_take_X0 hown hK hP 0 rfl rfl 0 (by decide) (hts (.fieldLink RX0 9 "FrameCard$Blocks" "holds" "[I") (by decide +kernel)) (fun _ h9 => h9) rfl dX0_take_41 ?_
              refine lv_iload hx hb dX0_take_44 (lv_at hl 0 rfl) ?_
              refine lv_iload_n hx hb dX0_take_46 rfl (lv_at hl 4 rfl) ?_
              refine va_iast (D := D) hx hb hK hP hD hS 1 0 rfl rfl (by have l_mm1m : ((-1) : Int32).toInt = (-1) := (by decide); have l_0 : (0 : Int32).toInt = 0 := (by decide); have l_48 : (48 : Int32).toInt = 48 := (by decide); have qc_1 := c_1; (try simp only [fc_le, fc_lt, fc_eq] at qc_1); have qc_2 := c_2; (try simp only [fc_le, fc_lt, fc_eq] at qc_2); have qc_3 := c_3; (try simp only [fc_le, fc_lt, fc_eq] at qc_3); have qc_4 := c_4; (try simp only [fc_le, fc_lt, fc_eq] at qc_4); rw [vp_in_iff]; omega) dX0_take_47 (fun H locs hP hD hS => ?_)
              have hP : va_P D vwCl [(h0, .inr (0, [.ref hh, .int count, .int freeh8, .int dirty])), (hh, .inl (tc 0, 48, .inl (upd holdsh8 x5h8.toNatClampNeg p0)))] H := hP
              have hD : va_D A [(h0, .inr (0, [.ref hh, .int count, .int freeh8, .int dirty])), (hh, .inl (tc 0, 48, .inl (upd holdsh8 x5h8.toNatClampNeg p0)))] := hD
              refine lv_aload_n hx hb dX0_take_48 rfl (lv_at hl 3 rfl) ?_
              refine lv_dup hx hb dX0_take_49 rfl ?_
              refine va_get (D := D) (ci := 0) (v := .int freeh8) (C := RX0) (T := TX0) (N := 4) hx hb hts iX0_take_X0 hown hK hP 0 rfl rfl 2 (by decide) (hts (.fieldLink RX0 19 "FrameCard$Blocks" "free" "I") (by decide +kernel)) (fun _ h9 => h9) rfl dX0_take_50 ?_
              refine lv_iconst (v := 1) hx hb dX0_take_53 (by decide) ?_
              refine lv_isub hx hb dX0_take_54 ?_
              refine va_put (D := D) (ci := 0) (v := .int (freeh8 - 1)) (ty := .int) (C := RX0) (T := TX0) (N := 4) hx hb hts iX0_take_X0 tyX0 tyX0_ok nmX0 hown hK hP hD hS 0 rfl rfl 2 (by decide) (hts (.fieldLink RX0 19 "FrameCard$Blocks" "free" "I") (by decide +kernel)) (fun _ h9 => h9) rfl (by decide +kernel) rfl rfl (Nat.le_of_ble_eq_true rfl) dX0_take_55 (fun H locs hP hD hS => ?_)
              have hP : va_P D vwCl [(h0, .inr (0, [.ref hh, .int count, .int (freeh8 - 1), .int dirty])), (hh, .inl (tc 0, 48, .inl (upd holdsh8 x5h8.toNatClampNeg p0)))] H := hP
              have hD : va_D A [(h0, .inr (0, [.ref hh, .int count, .int (freeh8 - 1), .int dirty])), (hh, .inl (tc 0, 48, .inl (upd holdsh8 x5h8.toNatClampNeg p0)))] := hD
              refine lv_iinc (v := (x4h8 + (-1))) (lv' := [(4, .int (x4h8 + (-1))), (5, .int x5h8), (3, .int x3h8), (0, .ref h0), (1, .int p0), (2, .int p1)]) hx hb dX0_take_58 hl (k := 1) rfl rfl (by decide) rfl (fun ls hl => ?_)
              refine lv_iload_n hx hb dX0_take_61 rfl (lv_at hl 2 rfl) ?_
              refine lv_iconst (v := (-1)) hx hb dX0_take_62 (by decide) ?_
              refine lv_icmp_ne (tgt := 71) hx hb dX0_take_63 (by decide) (fun c_5 => ?_) (fun c_5 => ?_)
              · refine lv_iload_n hx hb dX0_take_71 rfl (lv_at hl 2 rfl) ?_
                refine lv_istore_n (lv' := [(3, .int x3h8), (4, .int (x4h8 + (-1))), (5, .int x5h8), (0, .ref h0), (1, .int p0), (2, .int p1)]) hx hb dX0_take_72 rfl hl (by decide) rfl (fun ls hl => ?_)
                refine lv_iinc (v := (x5h8 + 1)) (lv' := [(5, .int (x5h8 + 1)), (3, .int x3h8), (4, .int (x4h8 + (-1))), (0, .ref h0), (1, .int p0), (2, .int p1)]) hx hb dX0_take_73 hl (k := 2) rfl rfl (by decide) rfl (fun ls hl => ?_)
                refine lv_goto (tgt := 8) hx hb dX0_take_76 (by decide) ?_
                exact ih_8 (i_8 + 1) x3h8 (x4h8 + (-1)) (x5h8 + 1) (freeh8 - 1) (upd holdsh8 x5h8.toNatClampNeg p0) (by rw [hb_8]; exact nI_1 _) (by have l_mm1m : ((-1) : Int32).toInt = (-1) := (by decide); have l_0 : (0 : Int32).toInt = 0 := (by decide); have l_48 : (48 : Int32).toInt = 48 := (by decide); have qc_1 := c_1; (try simp only [fc_le, fc_lt, fc_eq] at qc_1); have qc_2 := c_2; (try simp only [fc_le, fc_lt, fc_eq] at qc_2); have qc_3 := c_3; (try simp only [fc_le, fc_lt, fc_eq] at qc_3); have qc_4 := c_4; (try simp only [fc_le, fc_lt, fc_eq] at qc_4); have qc_5 := c_5; (try simp only [fc_le, fc_lt, fc_eq] at qc_5); skip; omega) (by rw [hI_8, mX0_take_L8_s, mX0_take_S8]; (try dsimp only); rw [if_neg c_1]; rw [if_neg c_2]; rw [if_neg c_3]; rw [if_pos c_4]; rw [if_neg c_5]; (first | done | rfl)) _ _ (hP.sub [0, 1] rfl) (hD.sub [0, 1] (by decide) rfl) hS ls (lv_sub hl [0, 2, 1, 3, 4, 5] rfl)
              · refine lv_iload hx hb dX0_take_66 (lv_at hl 1 rfl) ?_
                refine lv_goto (tgt := 72) hx hb dX0_take_68 (by decide) ?_
                refine lv_istore_n (lv' := [(3, .int x5h8), (4, .int (x4h8 + (-1))), (5, .int x5h8), (0, .ref h0), (1, .int p0), (2, .int p1)]) hx hb dX0_take_72 rfl hl (by decide) rfl (fun ls hl => ?_)
                refine lv_iinc (v := (x5h8 + 1)) (lv' := [(5, .int (x5h8 + 1)), (3, .int x5h8), (4, .int (x4h8 + (-1))), (0, .ref h0), (1, .int p0), (2, .int p1)]) hx hb dX0_take_73 hl (k := 2) rfl rfl (by decide) rfl (fun ls hl => ?_)
                refine lv_goto (tgt := 8) hx hb dX0_take_76 (by decide) ?_
                exact ih_8 (i_8 + 1) x5h8 (x4h8 + (-1)) (x5h8 + 1) (freeh8 - 1) (upd holdsh8 x5h8.toNatClampNeg p0) (by rw [hb_8]; exact nI_1 _) (by have l_mm1m : ((-1) : Int32).toInt = (-1) := (by decide); have l_0 : (0 : Int32).toInt = 0 := (by decide); have l_48 : (48 : Int32).toInt = 48 := (by decide); have qc_1 := c_1; (try simp only [fc_le, fc_lt, fc_eq] at qc_1); have qc_2 := c_2; (try simp only [fc_le, fc_lt, fc_eq] at qc_2); have qc_3 := c_3; (try simp only [fc_le, fc_lt, fc_eq] at qc_3); have qc_4 := c_4; (try simp only [fc_le, fc_lt, fc_eq] at qc_4); have qc_5 := c_5; (try simp only [fc_le, fc_lt, fc_eq] at qc_5); skip; omega) (by rw [hI_8, mX0_take_L8_s, mX0_take_S8]; (try dsimp only); rw [if_neg c_1]; rw [if_neg c_2]; rw [if_neg c_3]; rw [if_pos c_4]; rw [if_pos c_5]; (first | done | rfl)) _ _ (hP.sub [0, 1] rfl) (hD.sub [0, 1] (by decide) rfl) hS ls (lv_sub hl [0, 2, 1, 3, 4, 5] rfl)
  exact loop_8 49 0 (-1) p1 0 free holds nI_0.symm (by omega) (by rw [mX0_take]; (first | done | rfl)) _ _ (hP.sub [0, 1] rfl) (hD.sub [0, 1] (by decide) rfl) hS ls (lv_sub hl [0, 1, 2, 3, 4, 5] rfl)
noncomputable def mX0_soil_S4 (count : Int32) (free : Int32) (dirty : Int32) (p0 : Int32) (ih_4 : Int32 → Int32 → (Nat → Int32) → Int32 × Int32 × (Nat → Int32)) (x2h4 : Int32) (x3h4 : Int32) (holdsh4 : Nat → Int32) : Int32 × Int32 × (Nat → Int32) :=
  if 48 ≤ x3h4 then
    (x2h4, (dirty + x2h4), holdsh4)
  else
    if count ≤ x3h4 then
      (x2h4, (dirty + x2h4), holdsh4)
    else
      if (holdsh4 x3h4.toNatClampNeg) = p0 then
        ih_4 (x2h4 + 1) (x3h4 + 1) (upd holdsh4 x3h4.toNatClampNeg (-2))
      else
        ih_4 x2h4 (x3h4 + 1) holdsh4
noncomputable def mX0_soil_L4 (count : Int32) (free : Int32) (dirty : Int32) (p0 : Int32) (k : Nat) : Int32 → Int32 → (Nat → Int32) → Int32 × Int32 × (Nat → Int32) := Nat.rec (motive := fun _ => Int32 → Int32 → (Nat → Int32) → Int32 × Int32 × (Nat → Int32)) (fun x2h4 x3h4 holdsh4 => (0, dirty, holdsh4)) (fun _ ih => mX0_soil_S4 count free dirty p0 ih) k
theorem mX0_soil_L4_z (count : Int32) (free : Int32) (dirty : Int32) (p0 : Int32) (x2h4 : Int32) (x3h4 : Int32) (holdsh4 : Nat → Int32) : mX0_soil_L4 count free dirty p0 0 x2h4 x3h4 holdsh4 = (0, dirty, holdsh4) := rfl
theorem mX0_soil_L4_s (count : Int32) (free : Int32) (dirty : Int32) (p0 : Int32) (k : Nat) (x2h4 : Int32) (x3h4 : Int32) (holdsh4 : Nat → Int32) : mX0_soil_L4 count free dirty p0 (k + 1) x2h4 x3h4 holdsh4 = mX0_soil_S4 count free dirty p0 (mX0_soil_L4 count free dirty p0 k) x2h4 x3h4 holdsh4 := rfl
noncomputable def mX0_soil (holds : Nat → Int32) (count : Int32) (free : Int32) (dirty : Int32) (p0 : Int32) : Int32 × Int32 × (Nat → Int32) :=
  mX0_soil_L4 count free dirty p0 49 0 0 holds
set_option maxRecDepth 20000 in
theorem iX0_soil_X0 : ∀ w ∈ wsX00, w ∈ wsX0_soil := by decide +kernel
abbrev rmX0_soil : Room := { frames := 0, cells := 0, slots := 0, locals := 0 }
set_option maxHeartbeats 4000000 in
set_option maxRecDepth 100000 in
theorem c_X0_soil (l : Launch) (D : va_G) (tc : Nat → ClassId) (h0 : Nat) (hh : Nat) (holds : Nat → Int32) (count : Int32) (free : Int32) (dirty : Int32) (p0 : Int32) (sz : Nat) : Met l yX0_soil wsX0_soil rmX0_soil (va_Pc [.ref h0, .int p0] (fcB D tc [(h0, .inr (0, [.ref hh, .int count, .int free, .int dirty])), (hh, .inl (tc 0, 48, .inl holds))] sz)) (va_Qi (fun (r : Int32) (u : Int32 × (Nat → Int32)) => mX0_soil holds count free dirty p0 = (r, u)) (fun u t => fcO D (va_A [(h0, .inr (0, [.ref hh, .int count, .int free, .int dirty])), (hh, .inl (tc 0, 48, .inl holds))] sz) ((fun (u : Int32 × (Nat → Int32)) => [(h0, .inr (0, [.ref hh, .int count, .int free, .int (u.1)])), (hh, .inl (tc 0, 48, .inl (u.2)))]) u) t) (va_A [(h0, .inr (0, [.ref hh, .int count, .int free, .int dirty])), (hh, .inl (tc 0, 48, .inl holds))] sz)) 0 0 (va_A [(h0, .inr (0, [.ref hh, .int count, .int free, .int dirty])), (hh, .inl (tc 0, 48, .inl holds))] sz) := by
  refine fc_ofWi (own := RX0) (cc := cX0_soil) (maxL := 4) (W1 := (fun (u : Int32 × (Nat → Int32)) => [(h0, .inr (0, [.ref hh, .int count, .int free, .int (u.1)])), (hh, .inl (tc 0, 48, .inl (u.2)))])) rfl (by decide) rfl (Nat.le_of_ble_eq_true rfl) ?_
  intro p e s m args below meth c A Q hx hb hml hown hts hK hE hP hD hS hA hin hret ls hl
  have hl : lv_has ls 4 [(0, .ref h0), (1, .int p0)] := hl
  refine lv_iconst (v := 0) hx hb dX0_soil_0 (by decide) ?_
  refine lv_istore_n (lv' := [(2, .int 0), (0, .ref h0), (1, .int p0)]) hx hb dX0_soil_1 rfl hl (by decide) rfl (fun ls hl => ?_)
  refine lv_iconst (v := 0) hx hb dX0_soil_2 (by decide) ?_
  refine lv_istore_n (lv' := [(3, .int 0), (2, .int 0), (0, .ref h0), (1, .int p0)]) hx hb dX0_soil_3 rfl hl (by decide) rfl (fun ls hl => ?_)
  have loop_4 : ∀ (k_4 : Nat) (i_4 : Nat) (x2h4 : Int32) (x3h4 : Int32) (holdsh4 : Nat → Int32) (hb_4 : x3h4 = nI i_4) (hm_4 : i_4 ≤ 48 ∧ 48 < i_4 + k_4) (hI_4 : mX0_soil holds count free dirty p0 = mX0_soil_L4 count free dirty p0 k_4 x2h4 x3h4 holdsh4) (H : Heap) (locs : List Loc), va_P D vwCl [(h0, .inr (0, [.ref hh, .int count, .int free, .int dirty])), (hh, .inl (tc 0, 48, .inl holdsh4))] H → va_D A [(h0, .inr (0, [.ref hh, .int count, .int free, .int dirty])), (hh, .inl (tc 0, 48, .inl holdsh4))] → va_S A s.heap H locs → ∀ ls : Array Slot, lv_has ls 4 [(3, .int x3h4), (2, .int x2h4), (0, .ref h0), (1, .int p0)] → W p l e rmX0_soil s m args below meth c H locs 0 0 Q (F0 m 4 ls []) := by
    intro k_4
    induction k_4 with
    | zero =>
      intro i_4 x2h4 x3h4 holdsh4 hb_4 hm_4 hI_4 H locs hP hD hS ls hl
      exact absurd hm_4 (by omega)
    | succ k_4 ih_4 =>
      intro i_4 x2h4 x3h4 holdsh4 hb_4 hm_4 hI_4 H locs hP hD hS ls hl
      have zz_4 := fc_nI (n := i_4) (by omega)
      rw [← hb_4] at zz_4
      refine lv_iload_n hx hb dX0_soil_4 rfl (lv_at hl 0 rfl) ?_
      refine lv_bipush (v := 48) hx hb dX0_soil_5 (by decide) ?_
      refine lv_icmp_ge (tgt := 45) hx hb dX0_soil_7 (by decide) (fun c_1 => ?_) (fun c_1 => ?_)
      · refine lv_aload_n hx hb dX0_soil_45 rfl (lv_at hl 2 rfl) ?_
        refine lv_aload_n hx hb dX0_soil_46 rfl (lv_at hl 2 rfl) ?_
        refine va_get (D := D) (ci := 0) (v := .int dirty) (C := RX0) (T := TX0) (N := 4) hx hb hts iX0_soil_X0 hown hK hP 0 rfl rfl 3 (by decide) (hts (.fieldLink RX0 22 "FrameCard$Blocks" "dirty" "I") (by decide +kernel)) (fun _ h9 => h9) rfl dX0_soil_47 ?_
        refine lv_iload_n hx hb dX0_soil_50 rfl (lv_at hl 1 rfl) ?_
        refine lv_iadd hx hb dX0_soil_51 ?_
        refine va_put (D := D) (ci := 0) (v := .int (dirty + x2h4)) (ty := .int) (C := RX0) (T := TX0) (N := 4) hx hb hts iX0_soil_X0 tyX0 tyX0_ok nmX0 hown hK hP hD hS 0 rfl rfl 3 (by decide) (hts (.fieldLink RX0 22 "FrameCard$Blocks" "dirty" "I") (by decide +kernel)) (fun _ h9 => h9) rfl (by decide +kernel) rfl rfl (Nat.le_of_ble_eq_true rfl) dX0_soil_52 (fun H locs hP hD hS => ?_)
        have hP : va_P D vwCl [(h0, .inr (0, [.ref hh, .int count, .int free, .int (dirty + x2h4)])), (hh, .inl (tc 0, 48, .inl holdsh4))] H := hP
        have hD : va_D A [(h0, .inr (0, [.ref hh, .int count, .int free, .int (dirty + x2h4)])), (hh, .inl (tc 0, 48, .inl holdsh4))] := hD
        refine lv_iload_n hx hb dX0_soil_55 rfl (lv_at hl 1 rfl) ?_
        exact hret _ _ (x2h4) ((dirty + x2h4), holdsh4) _ _ (by rw [hI_4, mX0_soil_L4_s, mX0_soil_S4]; (try dsimp only); rw [if_pos c_1]; (first | done | rfl)) (hP.sub [0, 1] rfl) (hD.sub [0, 1] (by decide) rfl) hS dX0_soil_56
      · refine lv_iload_n hx hb dX0_soil_10 rfl (lv_at hl 0 rfl) ?_
        refine lv_aload_n hx hb dX0_soil_11 rfl (lv_at hl 2 rfl) ?_
        refine va_get (D := D) (ci := 0) (v := .int count) (C := RX0) (T := TX0) (N := 4) hx hb hts iX0_soil_X0 hown hK hP 0 rfl rfl 1 (by decide) (hts (.fieldLink RX0 15 "FrameCard$Blocks" "count" "I") (by decide +kernel)) (fun _ h9 => h9) rfl dX0_soil_12 ?_
        refine lv_icmp_ge (tgt := 45) hx hb dX0_soil_15 (by decide) (fun c_2 => ?_) (fun c_2 => ?_)
        · refine lv_aload_n hx hb dX0_soil_45 rfl (lv_at hl 2 rfl) ?_
          refine lv_aload_n hx hb dX0_soil_46 rfl (lv_at hl 2 rfl) ?_
          refine va_get (D := D) (ci := 0) (v := .int dirty) (C := RX0) (T := TX0) (N := 4) hx hb hts iX0_soil_X0 hown hK hP 0 rfl rfl 3 (by decide) (hts (.fieldLink RX0 22 "FrameCard$Blocks" "dirty" "I") (by decide +kernel)) (fun _ h9 => h9) rfl dX0_soil_47 ?_
          refine lv_iload_n hx hb dX0_soil_50 rfl (lv_at hl 1 rfl) ?_
          refine lv_iadd hx hb dX0_soil_51 ?_
          refine va_put (D := D) (ci := 0) (v := .int (dirty + x2h4)) (ty := .int) (C := RX0) (T := TX0) (N := 4) hx hb hts iX0_soil_X0 tyX0 tyX0_ok nmX0 hown hK hP hD hS 0 rfl rfl 3 (by decide) (hts (.fieldLink RX0 22 "FrameCard$Blocks" "dirty" "I") (by decide +kernel)) (fun _ h9 => h9) rfl (by decide +kernel) rfl rfl (Nat.le_of_ble_eq_true rfl) dX0_soil_52 (fun H locs hP hD hS => ?_)
          have hP : va_P D vwCl [(h0, .inr (0, [.ref hh, .int count, .int free, .int (dirty + x2h4)])), (hh, .inl (tc 0, 48, .inl holdsh4))] H := hP
          have hD : va_D A [(h0, .inr (0, [.ref hh, .int count, .int free, .int (dirty + x2h4)])), (hh, .inl (tc 0, 48, .inl holdsh4))] := hD
          refine lv_iload_n hx hb dX0_soil_55 rfl (lv_at hl 1 rfl) ?_
          exact hret _ _ (x2h4) ((dirty + x2h4), holdsh4) _ _ (by rw [hI_4, mX0_soil_L4_s, mX0_soil_S4]; (try dsimp only); rw [if_neg c_1]; rw [if_pos c_2]; (first | done | rfl)) (hP.sub [0, 1] rfl) (hD.sub [0, 1] (by decide) rfl) hS dX0_soil_56
        · refine lv_aload_n hx hb dX0_soil_18 rfl (lv_at hl 2 rfl) ?_
          refine va_get (D := D) (ci := 0) (v := .ref hh) (C := RX0) (T := TX0) (N := 4) hx hb hts iX0_soil_X0 hown hK hP 0 rfl rfl 0 (by decide) (hts (.fieldLink RX0 9 "FrameCard$Blocks" "holds" "[I") (by decide +kernel)) (fun _ h9 => h9) rfl dX0_soil_19 ?_
          refine lv_iload_n hx hb dX0_soil_22 rfl (lv_at hl 0 rfl) ?_
          refine va_iald (D := D) hx hb hK hP 1 0 rfl rfl (by have l_48 : (48 : Int32).toInt = 48 := (by decide); have qc_1 := c_1; (try simp only [fc_le, fc_lt, fc_eq] at qc_1); have qc_2 := c_2; (try simp only [fc_le, fc_lt, fc_eq] at qc_2); rw [vp_in_iff]; omega) dX0_soil_23 ?_
          refine lv_iload_n hx hb dX0_soil_24 rfl (lv_at hl 3 rfl) ?_
          refine lv_icmp_ne (tgt := 39) hx hb dX0_soil_25 (by decide) (fun c_3 => ?_) (fun c_3 => ?_)
          · refine lv_iinc (v := (x3h4 + 1)) (lv' := [(3, .int (x3h4 + 1)), (2, .int x2h4), (0, .ref h0), (1, .int p0)]) hx hb dX0_soil_39 hl (k := 0) rfl rfl (by decide) rfl (fun ls hl => ?_)
            refine lv_goto (tgt := 4) hx hb dX0_soil_42 (by decide) ?_
            exact ih_4 (i_4 + 1) x2h4 (x3h4 + 1) holdsh4 (by rw [hb_4]; exact nI_1 _) (by have l_48 : (48 : Int32).toInt = 48 := (by decide); have qc_1 := c_1; (try simp only [fc_le, fc_lt, fc_eq] at qc_1); have qc_2 := c_2; (try simp only [fc_le, fc_lt, fc_eq] at qc_2); have qc_3 := c_3; (try simp only [fc_le, fc_lt, fc_eq] at qc_3); skip; omega) (by rw [hI_4, mX0_soil_L4_s, mX0_soil_S4]; (try dsimp only); rw [if_neg c_1]; rw [if_neg c_2]; rw [if_neg c_3]; (first | done | rfl)) _ _ (hP.sub [0, 1] rfl) (hD.sub [0, 1] (by decide) rfl) hS ls (lv_sub hl [0, 1, 2, 3] rfl)
          · refine lv_aload_n hx hb dX0_soil_28 rfl (lv_at hl 2 rfl) ?_
            refine va_get (D := D) (ci := 0) (v := .ref hh) (C := RX0) (T := TX0) (N := 4) hx hb hts iX0_soil_X0 hown hK hP 0 rfl rfl 0 (by decide) (hts (.fieldLink RX0 9 "FrameCard$Blocks" "holds" "[I") (by decide +kernel)) (fun _ h9 => h9) rfl dX0_soil_29 ?_
            refine lv_iload_n hx hb dX0_soil_32 rfl (lv_at hl 0 rfl) ?_
            refine lv_bipush (v := (-2)) hx hb dX0_soil_33 (by decide) ?_
            refine va_iast (D := D) hx hb hK hP hD hS 1 0 rfl rfl (by have l_48 : (48 : Int32).toInt = 48 := (by decide); have qc_1 := c_1; (try simp only [fc_le, fc_lt, fc_eq] at qc_1); have qc_2 := c_2; (try simp only [fc_le, fc_lt, fc_eq] at qc_2); have qc_3 := c_3; (try simp only [fc_le, fc_lt, fc_eq] at qc_3); rw [vp_in_iff]; omega) dX0_soil_35 (fun H locs hP hD hS => ?_)
            have hP : va_P D vwCl [(h0, .inr (0, [.ref hh, .int count, .int free, .int dirty])), (hh, .inl (tc 0, 48, .inl (upd holdsh4 x3h4.toNatClampNeg (-2))))] H := hP
            have hD : va_D A [(h0, .inr (0, [.ref hh, .int count, .int free, .int dirty])), (hh, .inl (tc 0, 48, .inl (upd holdsh4 x3h4.toNatClampNeg (-2))))] := hD
            refine lv_iinc (v := (x2h4 + 1)) (lv' := [(2, .int (x2h4 + 1)), (3, .int x3h4), (0, .ref h0), (1, .int p0)]) hx hb dX0_soil_36 hl (k := 1) rfl rfl (by decide) rfl (fun ls hl => ?_)
            refine lv_iinc (v := (x3h4 + 1)) (lv' := [(3, .int (x3h4 + 1)), (2, .int (x2h4 + 1)), (0, .ref h0), (1, .int p0)]) hx hb dX0_soil_39 hl (k := 1) rfl rfl (by decide) rfl (fun ls hl => ?_)
            refine lv_goto (tgt := 4) hx hb dX0_soil_42 (by decide) ?_
            exact ih_4 (i_4 + 1) (x2h4 + 1) (x3h4 + 1) (upd holdsh4 x3h4.toNatClampNeg (-2)) (by rw [hb_4]; exact nI_1 _) (by have l_48 : (48 : Int32).toInt = 48 := (by decide); have qc_1 := c_1; (try simp only [fc_le, fc_lt, fc_eq] at qc_1); have qc_2 := c_2; (try simp only [fc_le, fc_lt, fc_eq] at qc_2); have qc_3 := c_3; (try simp only [fc_le, fc_lt, fc_eq] at qc_3); skip; omega) (by rw [hI_4, mX0_soil_L4_s, mX0_soil_S4]; (try dsimp only); rw [if_neg c_1]; rw [if_neg c_2]; rw [if_pos c_3]; (first | done | rfl)) _ _ (hP.sub [0, 1] rfl) (hD.sub [0, 1] (by decide) rfl) hS ls (lv_sub hl [0, 1, 2, 3] rfl)
  exact loop_4 49 0 0 0 holds nI_0.symm (by omega) (by rw [mX0_soil]; (first | done | rfl)) _ _ (hP.sub [0, 1] rfl) (hD.sub [0, 1] (by decide) rfl) hS ls (lv_sub hl [0, 1, 2, 3] rfl)
noncomputable def mX0_copyFrom (holds : Nat → Int32) (count : Int32) (free : Int32) (dirty : Int32) (gholds : Nat → Int32) (gcount : Int32) (gfree : Int32) (gdirty : Int32) : Int32 × Int32 × Int32 × (Nat → Int32) :=
  (gcount, gfree, gdirty, (va_cpy gholds holds (0 : Int32).toNatClampNeg (0 : Int32).toNatClampNeg (48 : Int32).toNatClampNeg))
set_option maxRecDepth 20000 in
theorem iX0_copyFrom_X0 : ∀ w ∈ wsX00, w ∈ wsX0_copyFrom := by decide +kernel
abbrev rmX0_copyFrom : Room := { frames := 1, cells := 0, slots := 0, locals := 60 }
set_option maxHeartbeats 4000000 in
set_option maxRecDepth 100000 in
theorem c_X0_copyFrom (l : Launch) (D : va_G) (tc : Nat → ClassId) (h0 : Nat) (hh : Nat) (holds : Nat → Int32) (count : Int32) (free : Int32) (dirty : Int32) (g0 : Nat) (gh : Nat) (gholds : Nat → Int32) (gcount : Int32) (gfree : Int32) (gdirty : Int32) (sz : Nat) : Met l yX0_copyFrom wsX0_copyFrom rmX0_copyFrom (va_Pc [.ref h0, .ref g0] (fcB D tc [(h0, .inr (0, [.ref hh, .int count, .int free, .int dirty])), (hh, .inl (tc 0, 48, .inl holds)), (g0, .inr (0, [.ref gh, .int gcount, .int gfree, .int gdirty])), (gh, .inl (tc 0, 48, .inl gholds))] sz)) (va_Qv (fun (u : Int32 × Int32 × Int32 × (Nat → Int32)) => mX0_copyFrom holds count free dirty gholds gcount gfree gdirty = u) (fun u t => fcO D (va_A [(h0, .inr (0, [.ref hh, .int count, .int free, .int dirty])), (hh, .inl (tc 0, 48, .inl holds)), (g0, .inr (0, [.ref gh, .int gcount, .int gfree, .int gdirty])), (gh, .inl (tc 0, 48, .inl gholds))] sz) ((fun (u : Int32 × Int32 × Int32 × (Nat → Int32)) => [(h0, .inr (0, [.ref hh, .int (u.1), .int (u.2.1), .int (u.2.2.1)])), (hh, .inl (tc 0, 48, .inl (u.2.2.2))), (g0, .inr (0, [.ref gh, .int gcount, .int gfree, .int gdirty])), (gh, .inl (tc 0, 48, .inl gholds))]) u) t) (va_A [(h0, .inr (0, [.ref hh, .int count, .int free, .int dirty])), (hh, .inl (tc 0, 48, .inl holds)), (g0, .inr (0, [.ref gh, .int gcount, .int gfree, .int gdirty])), (gh, .inl (tc 0, 48, .inl gholds))] sz)) 0 0 (va_A [(h0, .inr (0, [.ref hh, .int count, .int free, .int dirty])), (hh, .inl (tc 0, 48, .inl holds)), (g0, .inr (0, [.ref gh, .int gcount, .int gfree, .int gdirty])), (gh, .inl (tc 0, 48, .inl gholds))] sz) := by
  refine fc_ofWv (own := RX0) (cc := cX0_copyFrom) (maxL := 2) (W1 := (fun (u : Int32 × Int32 × Int32 × (Nat → Int32)) => [(h0, .inr (0, [.ref hh, .int (u.1), .int (u.2.1), .int (u.2.2.1)])), (hh, .inl (tc 0, 48, .inl (u.2.2.2))), (g0, .inr (0, [.ref gh, .int gcount, .int gfree, .int gdirty])), (gh, .inl (tc 0, 48, .inl gholds))])) rfl (by decide) rfl (Nat.le_of_ble_eq_true rfl) ?_
  intro p e s m args below meth c A Q hx hb hml hown hts hK hE hP hD hS hA hin hret ls hl
  have hl : lv_has ls 2 [(0, .ref h0), (1, .ref g0)] := hl
  refine lv_aload_n hx hb dX0_copyFrom_0 rfl (lv_at hl 1 rfl) ?_
  refine va_get (D := D) (ci := 0) (v := .ref gh) (C := RX0) (T := TX0) (N := 4) hx hb hts iX0_copyFrom_X0 hown hK hP 2 rfl rfl 0 (by decide) (hts (.fieldLink RX0 9 "FrameCard$Blocks" "holds" "[I") (by decide +kernel)) (fun _ h9 => h9) rfl dX0_copyFrom_1 ?_
  refine lv_iconst (v := 0) hx hb dX0_copyFrom_4 (by decide) ?_
  refine lv_aload_n hx hb dX0_copyFrom_5 rfl (lv_at hl 0 rfl) ?_
  refine va_get (D := D) (ci := 0) (v := .ref hh) (C := RX0) (T := TX0) (N := 4) hx hb hts iX0_copyFrom_X0 hown hK hP 0 rfl rfl 0 (by decide) (hts (.fieldLink RX0 9 "FrameCard$Blocks" "holds" "[I") (by decide +kernel)) (fun _ h9 => h9) rfl dX0_copyFrom_6 ?_
  refine lv_iconst (v := 0) hx hb dX0_copyFrom_9 (by decide) ?_
  refine lv_bipush (v := 48) hx hb dX0_copyFrom_10 (by decide) ?_
  refine va_copyi (D := D) hx hb (hml.trans hl.1.symm) hown (hts (.methodLink RX0 25 arraycopyName) (by decide +kernel)) (hts (.native arraycopyName) (by decide +kernel)) (hts (.static arraycopyName) (by decide +kernel)) (hts (.initialized "java/lang/System") (by decide +kernel)) hK hP hD hS 3 1 0 0 rfl rfl rfl rfl rfl (by decide) (by decide) (by decide) (by decide) (by decide) (fun _ _ => rfl) (Nat.le_of_ble_eq_true rfl) (by decide +kernel) dX0_copyFrom_12 (fun H locs hP hD hS => ?_)
  have hP : va_P D vwCl [(h0, .inr (0, [.ref hh, .int count, .int free, .int dirty])), (hh, .inl (tc 0, 48, .inl (va_cpy gholds holds (0 : Int32).toNatClampNeg (0 : Int32).toNatClampNeg (48 : Int32).toNatClampNeg))), (g0, .inr (0, [.ref gh, .int gcount, .int gfree, .int gdirty])), (gh, .inl (tc 0, 48, .inl gholds))] H := hP
  have hD : va_D A [(h0, .inr (0, [.ref hh, .int count, .int free, .int dirty])), (hh, .inl (tc 0, 48, .inl (va_cpy gholds holds (0 : Int32).toNatClampNeg (0 : Int32).toNatClampNeg (48 : Int32).toNatClampNeg))), (g0, .inr (0, [.ref gh, .int gcount, .int gfree, .int gdirty])), (gh, .inl (tc 0, 48, .inl gholds))] := hD
  refine lv_aload_n hx hb dX0_copyFrom_15 rfl (lv_at hl 0 rfl) ?_
  refine lv_aload_n hx hb dX0_copyFrom_16 rfl (lv_at hl 1 rfl) ?_
  refine va_get (D := D) (ci := 0) (v := .int gcount) (C := RX0) (T := TX0) (N := 4) hx hb hts iX0_copyFrom_X0 hown hK hP 2 rfl rfl 1 (by decide) (hts (.fieldLink RX0 15 "FrameCard$Blocks" "count" "I") (by decide +kernel)) (fun _ h9 => h9) rfl dX0_copyFrom_17 ?_
  refine va_put (D := D) (ci := 0) (v := .int gcount) (ty := .int) (C := RX0) (T := TX0) (N := 4) hx hb hts iX0_copyFrom_X0 tyX0 tyX0_ok nmX0 hown hK hP hD hS 0 rfl rfl 1 (by decide) (hts (.fieldLink RX0 15 "FrameCard$Blocks" "count" "I") (by decide +kernel)) (fun _ h9 => h9) rfl (by decide +kernel) rfl rfl (Nat.le_of_ble_eq_true rfl) dX0_copyFrom_20 (fun H locs hP hD hS => ?_)
  have hP : va_P D vwCl [(h0, .inr (0, [.ref hh, .int gcount, .int free, .int dirty])), (hh, .inl (tc 0, 48, .inl (va_cpy gholds holds (0 : Int32).toNatClampNeg (0 : Int32).toNatClampNeg (48 : Int32).toNatClampNeg))), (g0, .inr (0, [.ref gh, .int gcount, .int gfree, .int gdirty])), (gh, .inl (tc 0, 48, .inl gholds))] H := hP
  have hD : va_D A [(h0, .inr (0, [.ref hh, .int gcount, .int free, .int dirty])), (hh, .inl (tc 0, 48, .inl (va_cpy gholds holds (0 : Int32).toNatClampNeg (0 : Int32).toNatClampNeg (48 : Int32).toNatClampNeg))), (g0, .inr (0, [.ref gh, .int gcount, .int gfree, .int gdirty])), (gh, .inl (tc 0, 48, .inl gholds))] := hD
  refine lv_aload_n hx hb dX0_copyFrom_23 rfl (lv_at hl 0 rfl) ?_
  refine lv_aload_n hx hb dX0_copyFrom_24 rfl (lv_at hl 1 rfl) ?_
  refine va_get (D := D) (ci := 0) (v := .int gfree) (C := RX0) (T := TX0) (N := 4) hx hb hts iX0_copyFrom_X0 hown hK hP 2 rfl rfl 2 (by decide) (hts (.fieldLink RX0 19 "FrameCard$Blocks" "free" "I") (by decide +kernel)) (fun _ h9 => h9) rfl dX0_copyFrom_25 ?_
  refine va_put (D := D) (ci := 0) (v := .int gfree) (ty := .int) (C := RX0) (T := TX0) (N := 4) hx hb hts iX0_copyFrom_X0 tyX0 tyX0_ok nmX0 hown hK hP hD hS 0 rfl rfl 2 (by decide) (hts (.fieldLink RX0 19 "FrameCard$Blocks" "free" "I") (by decide +kernel)) (fun _ h9 => h9) rfl (by decide +kernel) rfl rfl (Nat.le_of_ble_eq_true rfl) dX0_copyFrom_28 (fun H locs hP hD hS => ?_)
  have hP : va_P D vwCl [(h0, .inr (0, [.ref hh, .int gcount, .int gfree, .int dirty])), (hh, .inl (tc 0, 48, .inl (va_cpy gholds holds (0 : Int32).toNatClampNeg (0 : Int32).toNatClampNeg (48 : Int32).toNatClampNeg))), (g0, .inr (0, [.ref gh, .int gcount, .int gfree, .int gdirty])), (gh, .inl (tc 0, 48, .inl gholds))] H := hP
  have hD : va_D A [(h0, .inr (0, [.ref hh, .int gcount, .int gfree, .int dirty])), (hh, .inl (tc 0, 48, .inl (va_cpy gholds holds (0 : Int32).toNatClampNeg (0 : Int32).toNatClampNeg (48 : Int32).toNatClampNeg))), (g0, .inr (0, [.ref gh, .int gcount, .int gfree, .int gdirty])), (gh, .inl (tc 0, 48, .inl gholds))] := hD
  refine lv_aload_n hx hb dX0_copyFrom_31 rfl (lv_at hl 0 rfl) ?_
  refine lv_aload_n hx hb dX0_copyFrom_32 rfl (lv_at hl 1 rfl) ?_
  refine va_get (D := D) (ci := 0) (v := .int gdirty) (C := RX0) (T := TX0) (N := 4) hx hb hts iX0_copyFrom_X0 hown hK hP 2 rfl rfl 3 (by decide) (hts (.fieldLink RX0 22 "FrameCard$Blocks" "dirty" "I") (by decide +kernel)) (fun _ h9 => h9) rfl dX0_copyFrom_33 ?_
  refine va_put (D := D) (ci := 0) (v := .int gdirty) (ty := .int) (C := RX0) (T := TX0) (N := 4) hx hb hts iX0_copyFrom_X0 tyX0 tyX0_ok nmX0 hown hK hP hD hS 0 rfl rfl 3 (by decide) (hts (.fieldLink RX0 22 "FrameCard$Blocks" "dirty" "I") (by decide +kernel)) (fun _ h9 => h9) rfl (by decide +kernel) rfl rfl (Nat.le_of_ble_eq_true rfl) dX0_copyFrom_36 (fun H locs hP hD hS => ?_)
  have hP : va_P D vwCl [(h0, .inr (0, [.ref hh, .int gcount, .int gfree, .int gdirty])), (hh, .inl (tc 0, 48, .inl (va_cpy gholds holds (0 : Int32).toNatClampNeg (0 : Int32).toNatClampNeg (48 : Int32).toNatClampNeg))), (g0, .inr (0, [.ref gh, .int gcount, .int gfree, .int gdirty])), (gh, .inl (tc 0, 48, .inl gholds))] H := hP
  have hD : va_D A [(h0, .inr (0, [.ref hh, .int gcount, .int gfree, .int gdirty])), (hh, .inl (tc 0, 48, .inl (va_cpy gholds holds (0 : Int32).toNatClampNeg (0 : Int32).toNatClampNeg (48 : Int32).toNatClampNeg))), (g0, .inr (0, [.ref gh, .int gcount, .int gfree, .int gdirty])), (gh, .inl (tc 0, 48, .inl gholds))] := hD
  exact hret _ _ (gcount, gfree, gdirty, (va_cpy gholds holds (0 : Int32).toNatClampNeg (0 : Int32).toNatClampNeg (48 : Int32).toNatClampNeg)) _ _ (by rw [mX0_copyFrom]; (first | done | rfl)) (hP.sub [0, 1, 2, 3] rfl) (hD.sub [0, 1, 2, 3] (by decide) rfl) hS dX0_copyFrom_39
