/-! Rounds -/
noncomputable def mX3_beginRound (told : Nat → Int32) (rt : Int32) (rc : Int32) (rl : Int32) (rs : Int32) (re : Int32) (rb : Int32) : Int32 × Int32 × Int32 × Int32 :=
  (0, 0, 0, 0)
set_option maxRecDepth 20000 in
theorem iX3_beginRound_X3 : ∀ w ∈ wsX30, w ∈ wsX3_beginRound := by decide +kernel
abbrev rmX3_beginRound : Room := { frames := 0, cells := 0, slots := 0, locals := 0 }
set_option maxHeartbeats 4000000 in
set_option maxRecDepth 100000 in
theorem c_X3_beginRound (l : Launch) (D : va_G) (tc : Nat → ClassId) (h0 : Nat) (ht : Nat) (told : Nat → Int32) (rt : Int32) (rc : Int32) (rl : Int32) (rs : Int32) (re : Int32) (rb : Int32) (sz : Nat) : Met l yX3_beginRound wsX3_beginRound rmX3_beginRound (va_Pc [.ref h0] (fcB D tc [(h0, .inr (3, [.ref ht, .int rt, .int rc, .int rl, .int rs, .int re, .int rb])), (ht, .inl (tc 0, 30, .inl told))] sz)) (va_Qv (fun (u : Int32 × Int32 × Int32 × Int32) => mX3_beginRound told rt rc rl rs re rb = u) (fun u t => fcO D (va_A [(h0, .inr (3, [.ref ht, .int rt, .int rc, .int rl, .int rs, .int re, .int rb])), (ht, .inl (tc 0, 30, .inl told))] sz) ((fun (u : Int32 × Int32 × Int32 × Int32) => [(h0, .inr (3, [.ref ht, .int (u.1), .int (u.2.1), .int (u.2.2.1), .int (u.2.2.2), .int re, .int rb])), (ht, .inl (tc 0, 30, .inl told))]) u) t) (va_A [(h0, .inr (3, [.ref ht, .int rt, .int rc, .int rl, .int rs, .int re, .int rb])), (ht, .inl (tc 0, 30, .inl told))] sz)) 0 0 (va_A [(h0, .inr (3, [.ref ht, .int rt, .int rc, .int rl, .int rs, .int re, .int rb])), (ht, .inl (tc 0, 30, .inl told))] sz) := by
  refine fc_ofWv (own := RX3) (cc := cX3_beginRound) (maxL := 1) (W1 := (fun (u : Int32 × Int32 × Int32 × Int32) => [(h0, .inr (3, [.ref ht, .int (u.1), .int (u.2.1), .int (u.2.2.1), .int (u.2.2.2), .int re, .int rb])), (ht, .inl (tc 0, 30, .inl told))])) rfl (by decide) rfl (Nat.le_of_ble_eq_true rfl) ?_
  intro p e s m args below meth c A Q hx hb hml hown hts hK hE hP hD hS hA hin hret ls hl
  have hl : lv_has ls 1 [(0, .ref h0)] := hl
  refine lv_aload_n hx hb dX3_beginRound_0 rfl (lv_at hl 0 rfl) ?_
  refine lv_iconst (v := 0) hx hb dX3_beginRound_1 (by decide) ?_
  refine va_put (D := D) (ci := 3) (v := .int 0) (ty := .int) (C := RX3) (T := TX3) (N := 7) hx hb hts iX3_beginRound_X3 tyX3 tyX3_ok nmX3 hown hK hP hD hS 0 rfl rfl 1 (by decide) (hts (.fieldLink RX3 25 "FrameCard$Rounds" "ticksEnded" "I") (by decide +kernel)) (fun _ h9 => h9) rfl (by decide +kernel) rfl rfl (Nat.le_of_ble_eq_true rfl) dX3_beginRound_2 (fun H locs hP hD hS => ?_)
  have hP : va_P D vwCl [(h0, .inr (3, [.ref ht, .int 0, .int rc, .int rl, .int rs, .int re, .int rb])), (ht, .inl (tc 0, 30, .inl told))] H := hP
  have hD : va_D A [(h0, .inr (3, [.ref ht, .int 0, .int rc, .int rl, .int rs, .int re, .int rb])), (ht, .inl (tc 0, 30, .inl told))] := hD
  refine lv_aload_n hx hb dX3_beginRound_5 rfl (lv_at hl 0 rfl) ?_
  refine lv_iconst (v := 0) hx hb dX3_beginRound_6 (by decide) ?_
  refine va_put (D := D) (ci := 3) (v := .int 0) (ty := .int) (C := RX3) (T := TX3) (N := 7) hx hb hts iX3_beginRound_X3 tyX3 tyX3_ok nmX3 hown hK hP hD hS 0 rfl rfl 2 (by decide) (hts (.fieldLink RX3 28 "FrameCard$Rounds" "came" "I") (by decide +kernel)) (fun _ h9 => h9) rfl (by decide +kernel) rfl rfl (Nat.le_of_ble_eq_true rfl) dX3_beginRound_7 (fun H locs hP hD hS => ?_)
  have hP : va_P D vwCl [(h0, .inr (3, [.ref ht, .int 0, .int 0, .int rl, .int rs, .int re, .int rb])), (ht, .inl (tc 0, 30, .inl told))] H := hP
  have hD : va_D A [(h0, .inr (3, [.ref ht, .int 0, .int 0, .int rl, .int rs, .int re, .int rb])), (ht, .inl (tc 0, 30, .inl told))] := hD
  refine lv_aload_n hx hb dX3_beginRound_10 rfl (lv_at hl 0 rfl) ?_
  refine lv_iconst (v := 0) hx hb dX3_beginRound_11 (by decide) ?_
  refine va_put (D := D) (ci := 3) (v := .int 0) (ty := .int) (C := RX3) (T := TX3) (N := 7) hx hb hts iX3_beginRound_X3 tyX3 tyX3_ok nmX3 hown hK hP hD hS 0 rfl rfl 3 (by decide) (hts (.fieldLink RX3 31 "FrameCard$Rounds" "lost" "I") (by decide +kernel)) (fun _ h9 => h9) rfl (by decide +kernel) rfl rfl (Nat.le_of_ble_eq_true rfl) dX3_beginRound_12 (fun H locs hP hD hS => ?_)
  have hP : va_P D vwCl [(h0, .inr (3, [.ref ht, .int 0, .int 0, .int 0, .int rs, .int re, .int rb])), (ht, .inl (tc 0, 30, .inl told))] H := hP
  have hD : va_D A [(h0, .inr (3, [.ref ht, .int 0, .int 0, .int 0, .int rs, .int re, .int rb])), (ht, .inl (tc 0, 30, .inl told))] := hD
  refine lv_aload_n hx hb dX3_beginRound_15 rfl (lv_at hl 0 rfl) ?_
  refine lv_iconst (v := 0) hx hb dX3_beginRound_16 (by decide) ?_
  refine va_put (D := D) (ci := 3) (v := .int 0) (ty := .int) (C := RX3) (T := TX3) (N := 7) hx hb hts iX3_beginRound_X3 tyX3 tyX3_ok nmX3 hown hK hP hD hS 0 rfl rfl 4 (by decide) (hts (.fieldLink RX3 34 "FrameCard$Rounds" "stored" "I") (by decide +kernel)) (fun _ h9 => h9) rfl (by decide +kernel) rfl rfl (Nat.le_of_ble_eq_true rfl) dX3_beginRound_17 (fun H locs hP hD hS => ?_)
  have hP : va_P D vwCl [(h0, .inr (3, [.ref ht, .int 0, .int 0, .int 0, .int 0, .int re, .int rb])), (ht, .inl (tc 0, 30, .inl told))] H := hP
  have hD : va_D A [(h0, .inr (3, [.ref ht, .int 0, .int 0, .int 0, .int 0, .int re, .int rb])), (ht, .inl (tc 0, 30, .inl told))] := hD
  exact hret _ _ (0, 0, 0, 0) _ _ (by rw [mX3_beginRound]; (first | done | rfl)) (hP.sub [0, 1] rfl) (hD.sub [0, 1] (by decide) rfl) hS dX3_beginRound_20
theorem hd_X3_beginRound : yX3_beginRound.cls = RX3 ∧ yX3_beginRound.cls ≠ "java/lang/invoke/MethodHandle" ∧ yX3_beginRound.cls ≠ "java/lang/invoke/VarHandle" ∧ (parseMethodDescriptor yX3_beginRound.desc).map (fun d => d.parameters.length) = some 0 := by decide +kernel
theorem hd_X3_beginRoundn : yX3_beginRound.cls ≠ "java/lang/invoke/MethodHandle" ∧ yX3_beginRound.cls ≠ "java/lang/invoke/VarHandle" ∧ (parseMethodDescriptor yX3_beginRound.desc).map (fun d => d.parameters.length) = some 0 := by decide +kernel
noncomputable def mX3_begin (told : Nat → Int32) (rt : Int32) (rc : Int32) (rl : Int32) (rs : Int32) (re : Int32) (rb : Int32) : Int32 × Int32 × Int32 × Int32 × Int32 × Int32 :=
  match mX3_beginRound told rt rc rl rs re rb with
  | (rt_1, rc_1, rl_1, rs_1) =>
    (rt_1, rc_1, rl_1, rs_1, 0, 0)
set_option maxRecDepth 20000 in
theorem iX3_begin_X3 : ∀ w ∈ wsX30, w ∈ wsX3_begin := by decide +kernel
abbrev rmX3_begin : Room := { frames := 1, cells := 0, slots := 0, locals := 20 }
set_option maxHeartbeats 4000000 in
set_option maxRecDepth 100000 in
theorem c_X3_begin (l : Launch) (D : va_G) (tc : Nat → ClassId) (h0 : Nat) (ht : Nat) (told : Nat → Int32) (rt : Int32) (rc : Int32) (rl : Int32) (rs : Int32) (re : Int32) (rb : Int32) (sz : Nat) : Met l yX3_begin wsX3_begin rmX3_begin (va_Pc [.ref h0] (fcB D tc [(h0, .inr (3, [.ref ht, .int rt, .int rc, .int rl, .int rs, .int re, .int rb])), (ht, .inl (tc 0, 30, .inl told))] sz)) (va_Qv (fun (u : Int32 × Int32 × Int32 × Int32 × Int32 × Int32) => mX3_begin told rt rc rl rs re rb = u) (fun u t => fcO D (va_A [(h0, .inr (3, [.ref ht, .int rt, .int rc, .int rl, .int rs, .int re, .int rb])), (ht, .inl (tc 0, 30, .inl told))] sz) ((fun (u : Int32 × Int32 × Int32 × Int32 × Int32 × Int32) => [(h0, .inr (3, [.ref ht, .int (u.1), .int (u.2.1), .int (u.2.2.1), .int (u.2.2.2.1), .int (u.2.2.2.2.1), .int (u.2.2.2.2.2)])), (ht, .inl (tc 0, 30, .inl told))]) u) t) (va_A [(h0, .inr (3, [.ref ht, .int rt, .int rc, .int rl, .int rs, .int re, .int rb])), (ht, .inl (tc 0, 30, .inl told))] sz)) 0 0 (va_A [(h0, .inr (3, [.ref ht, .int rt, .int rc, .int rl, .int rs, .int re, .int rb])), (ht, .inl (tc 0, 30, .inl told))] sz) := by
  refine fc_ofWv (own := RX3) (cc := cX3_begin) (maxL := 1) (W1 := (fun (u : Int32 × Int32 × Int32 × Int32 × Int32 × Int32) => [(h0, .inr (3, [.ref ht, .int (u.1), .int (u.2.1), .int (u.2.2.1), .int (u.2.2.2.1), .int (u.2.2.2.2.1), .int (u.2.2.2.2.2)])), (ht, .inl (tc 0, 30, .inl told))])) rfl (by decide) rfl (Nat.le_of_ble_eq_true rfl) ?_
  intro p e s m args below meth c A Q hx hb hml hown hts hK hE hP hD hS hA hin hret ls hl
  have hl : lv_has ls 1 [(0, .ref h0)] := hl
  refine lv_aload_n hx hb dX3_begin_0 rfl (lv_at hl 0 rfl) ?_
  refine fc_gov (isC := [0, 1]) (isR := []) (wc := [(h0, .inr (3, [.ref ht, .int rt, .int rc, .int rl, .int rs, .int re, .int rb])), (ht, .inl (tc 0, 30, .inl told))]) (wr := []) hP hD hS hA rfl rfl (by decide) (by decide) (fc_runV (isC := [0, 1]) (As := []) (rest := []) hx hb hml hown hts hK hE hP hD hS hA rfl (by decide) (c_X3_beginRound l D tc h0 ht told rt rc rl rs re rb _ ) (cwV 0 hts gX3_begin_X3_beginRound rfl rfl rfl hd_X3_beginRound ⟨Nat.le_of_ble_eq_true rfl, Nat.le_of_ble_eq_true rfl⟩) (ci := 3) rfl rfl rfl rfl hl.1 rfl (Nat.le_of_ble_eq_true rfl) dX3_begin_1 ⟨Nat.le_of_ble_eq_true rfl, Nat.le_of_ble_eq_true rfl⟩) (fun u_1 H locs hw_1 hP hD hS => ?_)
  obtain ⟨rt_1, rc_1, rl_1, rs_1⟩ := u_1
  try dsimp only at hw_1
  have hP : va_P D vwCl [(h0, .inr (3, [.ref ht, .int rt_1, .int rc_1, .int rl_1, .int rs_1, .int re, .int rb])), (ht, .inl (tc 0, 30, .inl told))] H := hP
  have hD : va_D A [(h0, .inr (3, [.ref ht, .int rt_1, .int rc_1, .int rl_1, .int rs_1, .int re, .int rb])), (ht, .inl (tc 0, 30, .inl told))] := hD
  refine lv_aload_n hx hb dX3_begin_4 rfl (lv_at hl 0 rfl) ?_
  refine lv_iconst (v := 0) hx hb dX3_begin_5 (by decide) ?_
  refine va_put (D := D) (ci := 3) (v := .int 0) (ty := .int) (C := RX3) (T := TX3) (N := 7) hx hb hts iX3_begin_X3 tyX3 tyX3_ok nmX3 hown hK hP hD hS 0 rfl rfl 5 (by decide) (hts (.fieldLink RX3 18 "FrameCard$Rounds" "ended" "I") (by decide +kernel)) (fun _ h9 => h9) rfl (by decide +kernel) rfl rfl (Nat.le_of_ble_eq_true rfl) dX3_begin_6 (fun H locs hP hD hS => ?_)
  have hP : va_P D vwCl [(h0, .inr (3, [.ref ht, .int rt_1, .int rc_1, .int rl_1, .int rs_1, .int 0, .int rb])), (ht, .inl (tc 0, 30, .inl told))] H := hP
  have hD : va_D A [(h0, .inr (3, [.ref ht, .int rt_1, .int rc_1, .int rl_1, .int rs_1, .int 0, .int rb])), (ht, .inl (tc 0, 30, .inl told))] := hD
  refine lv_aload_n hx hb dX3_begin_9 rfl (lv_at hl 0 rfl) ?_
  refine lv_iconst (v := 0) hx hb dX3_begin_10 (by decide) ?_
  refine va_put (D := D) (ci := 3) (v := .int 0) (ty := .int) (C := RX3) (T := TX3) (N := 7) hx hb hts iX3_begin_X3 tyX3 tyX3_ok nmX3 hown hK hP hD hS 0 rfl rfl 6 (by decide) (hts (.fieldLink RX3 22 "FrameCard$Rounds" "broken" "I") (by decide +kernel)) (fun _ h9 => h9) rfl (by decide +kernel) rfl rfl (Nat.le_of_ble_eq_true rfl) dX3_begin_11 (fun H locs hP hD hS => ?_)
  have hP : va_P D vwCl [(h0, .inr (3, [.ref ht, .int rt_1, .int rc_1, .int rl_1, .int rs_1, .int 0, .int 0])), (ht, .inl (tc 0, 30, .inl told))] H := hP
  have hD : va_D A [(h0, .inr (3, [.ref ht, .int rt_1, .int rc_1, .int rl_1, .int rs_1, .int 0, .int 0])), (ht, .inl (tc 0, 30, .inl told))] := hD
  exact hret _ _ (rt_1, rc_1, rl_1, rs_1, 0, 0) _ _ (by rw [mX3_begin]; (try dsimp only); rw [hw_1]; (try dsimp only); (first | done | rfl)) (hP.sub [0, 1] rfl) (hD.sub [0, 1] (by decide) rfl) hS dX3_begin_14
noncomputable def mX3_reason (told : Nat → Int32) (rt : Int32) (rc : Int32) (rl : Int32) (rs : Int32) (re : Int32) (rb : Int32) (p0 : Int32) (p1 : Int32) : Int32 :=
  if p0 ≤ rc then
    if rl ≤ 0 then
      if p1 = 0 then
        4
      else
        3
    else
      2
  else
    1
set_option maxRecDepth 20000 in
theorem iX3_reason_X3 : ∀ w ∈ wsX30, w ∈ wsX3_reason := by decide +kernel
abbrev rmX3_reason : Room := { frames := 0, cells := 0, slots := 0, locals := 0 }
set_option maxHeartbeats 4000000 in
set_option maxRecDepth 100000 in
theorem c_X3_reason (l : Launch) (D : va_G) (tc : Nat → ClassId) (h0 : Nat) (ht : Nat) (told : Nat → Int32) (rt : Int32) (rc : Int32) (rl : Int32) (rs : Int32) (re : Int32) (rb : Int32) (p0 : Int32) (p1 : Int32) (sz : Nat) : Met l yX3_reason wsX3_reason rmX3_reason (va_Pc [.ref h0, .int p0, .int p1] (fcB D tc [(h0, .inr (3, [.ref ht, .int rt, .int rc, .int rl, .int rs, .int re, .int rb])), (ht, .inl (tc 0, 30, .inl told))] sz)) (va_Qi (fun (r : Int32) (_ : Unit) => mX3_reason told rt rc rl rs re rb p0 p1 = r) (fun u t => fcO D (va_A [(h0, .inr (3, [.ref ht, .int rt, .int rc, .int rl, .int rs, .int re, .int rb])), (ht, .inl (tc 0, 30, .inl told))] sz) ((fun (_ : Unit) => [(h0, .inr (3, [.ref ht, .int rt, .int rc, .int rl, .int rs, .int re, .int rb])), (ht, .inl (tc 0, 30, .inl told))]) u) t) (va_A [(h0, .inr (3, [.ref ht, .int rt, .int rc, .int rl, .int rs, .int re, .int rb])), (ht, .inl (tc 0, 30, .inl told))] sz)) 0 0 (va_A [(h0, .inr (3, [.ref ht, .int rt, .int rc, .int rl, .int rs, .int re, .int rb])), (ht, .inl (tc 0, 30, .inl told))] sz) := by
  refine fc_ofWi (own := RX3) (cc := cX3_reason) (maxL := 3) (W1 := (fun (_ : Unit) => [(h0, .inr (3, [.ref ht, .int rt, .int rc, .int rl, .int rs, .int re, .int rb])), (ht, .inl (tc 0, 30, .inl told))])) rfl (by decide) rfl (Nat.le_of_ble_eq_true rfl) ?_
  intro p e s m args below meth c A Q hx hb hml hown hts hK hE hP hD hS hA hin hret ls hl
  have hl : lv_has ls 3 [(0, .ref h0), (1, .int p0), (2, .int p1)] := hl
  refine lv_aload_n hx hb dX3_reason_0 rfl (lv_at hl 0 rfl) ?_
  refine va_get (D := D) (ci := 3) (v := .int rc) (C := RX3) (T := TX3) (N := 7) hx hb hts iX3_reason_X3 hown hK hP 0 rfl rfl 2 (by decide) (hts (.fieldLink RX3 28 "FrameCard$Rounds" "came" "I") (by decide +kernel)) (fun _ h9 => h9) rfl dX3_reason_1 ?_
  refine lv_iload_n hx hb dX3_reason_4 rfl (lv_at hl 1 rfl) ?_
  refine lv_icmp_ge (tgt := 10) hx hb dX3_reason_5 (by decide) (fun c_1 => ?_) (fun c_1 => ?_)
  · refine lv_aload_n hx hb dX3_reason_10 rfl (lv_at hl 0 rfl) ?_
    refine va_get (D := D) (ci := 3) (v := .int rl) (C := RX3) (T := TX3) (N := 7) hx hb hts iX3_reason_X3 hown hK hP 0 rfl rfl 3 (by decide) (hts (.fieldLink RX3 31 "FrameCard$Rounds" "lost" "I") (by decide +kernel)) (fun _ h9 => h9) rfl dX3_reason_11 ?_
    refine lv_if_le (tgt := 19) hx hb dX3_reason_14 (by decide) (fun c_2 => ?_) (fun c_2 => ?_)
    · refine lv_iload_n hx hb dX3_reason_19 rfl (lv_at hl 2 rfl) ?_
      refine lv_if_eq (tgt := 27) hx hb dX3_reason_20 (by decide) (fun c_3 => ?_) (fun c_3 => ?_)
      · refine lv_iconst (v := 4) hx hb dX3_reason_27 (by decide) ?_
        exact hret _ _ (4) () _ _ (by rw [mX3_reason]; (try dsimp only); rw [if_pos c_1]; rw [if_pos c_2]; rw [if_pos c_3]; (first | done | rfl)) (hP.sub [0, 1] rfl) (hD.sub [0, 1] (by decide) rfl) hS dX3_reason_28
      · refine lv_iconst (v := 3) hx hb dX3_reason_23 (by decide) ?_
        refine lv_goto (tgt := 28) hx hb dX3_reason_24 (by decide) ?_
        exact hret _ _ (3) () _ _ (by rw [mX3_reason]; (try dsimp only); rw [if_pos c_1]; rw [if_pos c_2]; rw [if_neg c_3]; (first | done | rfl)) (hP.sub [0, 1] rfl) (hD.sub [0, 1] (by decide) rfl) hS dX3_reason_28
    · refine lv_iconst (v := 2) hx hb dX3_reason_17 (by decide) ?_
      exact hret _ _ (2) () _ _ (by rw [mX3_reason]; (try dsimp only); rw [if_pos c_1]; rw [if_neg c_2]; (first | done | rfl)) (hP.sub [0, 1] rfl) (hD.sub [0, 1] (by decide) rfl) hS dX3_reason_18
  · refine lv_iconst (v := 1) hx hb dX3_reason_8 (by decide) ?_
    exact hret _ _ (1) () _ _ (by rw [mX3_reason]; (try dsimp only); rw [if_neg c_1]; (first | done | rfl)) (hP.sub [0, 1] rfl) (hD.sub [0, 1] (by decide) rfl) hS dX3_reason_9
noncomputable def mX3_tell (told : Nat → Int32) (rt : Int32) (rc : Int32) (rl : Int32) (rs : Int32) (re : Int32) (rb : Int32) (p0 : Int32) : Int32 × (Nat → Int32) :=
  if ((rb - rb / 10 * 10) * 3) < 0 then
    ((rb + 1), told)
  else
    if 30 ≤ (((rb - rb / 10 * 10) * 3) + 2) then
      ((rb + 1), told)
    else
      ((rb + 1), (upd (upd (upd told (((rb - rb / 10 * 10) * 3) : Int32).toNatClampNeg re) ((((rb - rb / 10 * 10) * 3) + 1) : Int32).toNatClampNeg p0) ((((rb - rb / 10 * 10) * 3) + 2) : Int32).toNatClampNeg rs))
set_option maxRecDepth 20000 in
theorem iX3_tell_X3 : ∀ w ∈ wsX30, w ∈ wsX3_tell := by decide +kernel
abbrev rmX3_tell : Room := { frames := 0, cells := 0, slots := 0, locals := 0 }
set_option maxHeartbeats 4000000 in
set_option maxRecDepth 100000 in
theorem c_X3_tell (l : Launch) (D : va_G) (tc : Nat → ClassId) (h0 : Nat) (ht : Nat) (told : Nat → Int32) (rt : Int32) (rc : Int32) (rl : Int32) (rs : Int32) (re : Int32) (rb : Int32) (p0 : Int32) (sz : Nat) : Met l yX3_tell wsX3_tell rmX3_tell (va_Pc [.ref h0, .int p0] (fcB D tc [(h0, .inr (3, [.ref ht, .int rt, .int rc, .int rl, .int rs, .int re, .int rb])), (ht, .inl (tc 0, 30, .inl told))] sz)) (va_Qv (fun (u : Int32 × (Nat → Int32)) => mX3_tell told rt rc rl rs re rb p0 = u) (fun u t => fcO D (va_A [(h0, .inr (3, [.ref ht, .int rt, .int rc, .int rl, .int rs, .int re, .int rb])), (ht, .inl (tc 0, 30, .inl told))] sz) ((fun (u : Int32 × (Nat → Int32)) => [(h0, .inr (3, [.ref ht, .int rt, .int rc, .int rl, .int rs, .int re, .int (u.1)])), (ht, .inl (tc 0, 30, .inl (u.2)))]) u) t) (va_A [(h0, .inr (3, [.ref ht, .int rt, .int rc, .int rl, .int rs, .int re, .int rb])), (ht, .inl (tc 0, 30, .inl told))] sz)) 0 0 (va_A [(h0, .inr (3, [.ref ht, .int rt, .int rc, .int rl, .int rs, .int re, .int rb])), (ht, .inl (tc 0, 30, .inl told))] sz) := by
  refine fc_ofWv (own := RX3) (cc := cX3_tell) (maxL := 3) (W1 := (fun (u : Int32 × (Nat → Int32)) => [(h0, .inr (3, [.ref ht, .int rt, .int rc, .int rl, .int rs, .int re, .int (u.1)])), (ht, .inl (tc 0, 30, .inl (u.2)))])) rfl (by decide) rfl (Nat.le_of_ble_eq_true rfl) ?_
  intro p e s m args below meth c A Q hx hb hml hown hts hK hE hP hD hS hA hin hret ls hl
  have hl : lv_has ls 3 [(0, .ref h0), (1, .int p0)] := hl
  refine lv_aload_n hx hb dX3_tell_0 rfl (lv_at hl 0 rfl) ?_
  refine va_get (D := D) (ci := 3) (v := .int rb) (C := RX3) (T := TX3) (N := 7) hx hb hts iX3_tell_X3 hown hK hP 0 rfl rfl 6 (by decide) (hts (.fieldLink RX3 22 "FrameCard$Rounds" "broken" "I") (by decide +kernel)) (fun _ h9 => h9) rfl dX3_tell_1 ?_
  refine lv_bipush (v := 10) hx hb dX3_tell_4 (by decide) ?_
  refine lv_irem hx hb dX3_tell_6 (by decide) ?_
  refine lv_iconst (v := 3) hx hb dX3_tell_7 (by decide) ?_
  refine lv_imul hx hb dX3_tell_8 ?_
  refine lv_istore_n (lv' := [(2, .int ((rb - rb / 10 * 10) * 3)), (0, .ref h0), (1, .int p0)]) hx hb dX3_tell_9 rfl hl (by decide) rfl (fun ls hl => ?_)
  refine lv_iload_n hx hb dX3_tell_10 rfl (lv_at hl 0 rfl) ?_
  refine lv_if_lt (tgt := 56) hx hb dX3_tell_11 (by decide) (fun c_1 => ?_) (fun c_1 => ?_)
  · refine lv_aload_n hx hb dX3_tell_56 rfl (lv_at hl 1 rfl) ?_
    refine lv_dup hx hb dX3_tell_57 rfl ?_
    refine va_get (D := D) (ci := 3) (v := .int rb) (C := RX3) (T := TX3) (N := 7) hx hb hts iX3_tell_X3 hown hK hP 0 rfl rfl 6 (by decide) (hts (.fieldLink RX3 22 "FrameCard$Rounds" "broken" "I") (by decide +kernel)) (fun _ h9 => h9) rfl dX3_tell_58 ?_
    refine lv_iconst (v := 1) hx hb dX3_tell_61 (by decide) ?_
    refine lv_iadd hx hb dX3_tell_62 ?_
    refine va_put (D := D) (ci := 3) (v := .int (rb + 1)) (ty := .int) (C := RX3) (T := TX3) (N := 7) hx hb hts iX3_tell_X3 tyX3 tyX3_ok nmX3 hown hK hP hD hS 0 rfl rfl 6 (by decide) (hts (.fieldLink RX3 22 "FrameCard$Rounds" "broken" "I") (by decide +kernel)) (fun _ h9 => h9) rfl (by decide +kernel) rfl rfl (Nat.le_of_ble_eq_true rfl) dX3_tell_63 (fun H locs hP hD hS => ?_)
    have hP : va_P D vwCl [(h0, .inr (3, [.ref ht, .int rt, .int rc, .int rl, .int rs, .int re, .int (rb + 1)])), (ht, .inl (tc 0, 30, .inl told))] H := hP
    have hD : va_D A [(h0, .inr (3, [.ref ht, .int rt, .int rc, .int rl, .int rs, .int re, .int (rb + 1)])), (ht, .inl (tc 0, 30, .inl told))] := hD
    exact hret _ _ ((rb + 1), told) _ _ (by rw [mX3_tell]; (try dsimp only); rw [if_pos c_1]; (first | done | rfl)) (hP.sub [0, 1] rfl) (hD.sub [0, 1] (by decide) rfl) hS dX3_tell_66
  · refine lv_iload_n hx hb dX3_tell_14 rfl (lv_at hl 0 rfl) ?_
    refine lv_iconst (v := 2) hx hb dX3_tell_15 (by decide) ?_
    refine lv_iadd hx hb dX3_tell_16 ?_
    refine lv_aload_n hx hb dX3_tell_17 rfl (lv_at hl 1 rfl) ?_
    refine va_get (D := D) (ci := 3) (v := .ref ht) (C := RX3) (T := TX3) (N := 7) hx hb hts iX3_tell_X3 hown hK hP 0 rfl rfl 0 (by decide) (hts (.fieldLink RX3 9 "FrameCard$Rounds" "told" "[I") (by decide +kernel)) (fun _ h9 => h9) rfl dX3_tell_18 ?_
    refine va_alen (D := D) hx hb hK hP 1 0 rfl (ty := .int) rfl (v := 30) rfl dX3_tell_21 ?_
    refine lv_icmp_ge (tgt := 56) hx hb dX3_tell_22 (by decide) (fun c_2 => ?_) (fun c_2 => ?_)
    · refine lv_aload_n hx hb dX3_tell_56 rfl (lv_at hl 1 rfl) ?_
      refine lv_dup hx hb dX3_tell_57 rfl ?_
      refine va_get (D := D) (ci := 3) (v := .int rb) (C := RX3) (T := TX3) (N := 7) hx hb hts iX3_tell_X3 hown hK hP 0 rfl rfl 6 (by decide) (hts (.fieldLink RX3 22 "FrameCard$Rounds" "broken" "I") (by decide +kernel)) (fun _ h9 => h9) rfl dX3_tell_58 ?_
      refine lv_iconst (v := 1) hx hb dX3_tell_61 (by decide) ?_
      refine lv_iadd hx hb dX3_tell_62 ?_
      refine va_put (D := D) (ci := 3) (v := .int (rb + 1)) (ty := .int) (C := RX3) (T := TX3) (N := 7) hx hb hts iX3_tell_X3 tyX3 tyX3_ok nmX3 hown hK hP hD hS 0 rfl rfl 6 (by decide) (hts (.fieldLink RX3 22 "FrameCard$Rounds" "broken" "I") (by decide +kernel)) (fun _ h9 => h9) rfl (by decide +kernel) rfl rfl (Nat.le_of_ble_eq_true rfl) dX3_tell_63 (fun H locs hP hD hS => ?_)
      have hP : va_P D vwCl [(h0, .inr (3, [.ref ht, .int rt, .int rc, .int rl, .int rs, .int re, .int (rb + 1)])), (ht, .inl (tc 0, 30, .inl told))] H := hP
      have hD : va_D A [(h0, .inr (3, [.ref ht, .int rt, .int rc, .int rl, .int rs, .int re, .int (rb + 1)])), (ht, .inl (tc 0, 30, .inl told))] := hD
      exact hret _ _ ((rb + 1), told) _ _ (by rw [mX3_tell]; (try dsimp only); rw [if_neg c_1]; rw [if_pos c_2]; (first | done | rfl)) (hP.sub [0, 1] rfl) (hD.sub [0, 1] (by decide) rfl) hS dX3_tell_66
    · have hz := fc_remk_rng (x := rb) (k := 10) (n := 10) (by decide) (by decide) (by decide)
      have a1 := fc_mulk (x := rb - rb / 10 * 10) (k := 3) (n := 3) (by decide) (by omega) (by omega)
      have a2 := fc_addk (x := (rb - rb / 10 * 10) * 3) (k := 2) (n := 2) (by decide) (by omega) (by omega)
      have a3 := fc_addk (x := (rb - rb / 10 * 10) * 3) (k := 1) (n := 1) (by decide) (by omega) (by omega)
      refine lv_aload_n hx hb dX3_tell_25 rfl (lv_at hl 1 rfl) ?_
      refine va_get (D := D) (ci := 3) (v := .ref ht) (C := RX3) (T := TX3) (N := 7) hx hb hts iX3_tell_X3 hown hK hP 0 rfl rfl 0 (by decide) (hts (.fieldLink RX3 9 "FrameCard$Rounds" "told" "[I") (by decide +kernel)) (fun _ h9 => h9) rfl dX3_tell_26 ?_
      refine lv_iload_n hx hb dX3_tell_29 rfl (lv_at hl 0 rfl) ?_
      refine lv_aload_n hx hb dX3_tell_30 rfl (lv_at hl 1 rfl) ?_
      refine va_get (D := D) (ci := 3) (v := .int re) (C := RX3) (T := TX3) (N := 7) hx hb hts iX3_tell_X3 hown hK hP 0 rfl rfl 5 (by decide) (hts (.fieldLink RX3 18 "FrameCard$Rounds" "ended" "I") (by decide +kernel)) (fun _ h9 => h9) rfl dX3_tell_31 ?_
      refine va_iast (D := D) hx hb hK hP hD hS 1 0 rfl rfl (by have l_0 : (0 : Int32).toInt = 0 := (by decide); have l_10 : (10 : Int32).toInt = 10 := (by decide); have l_2 : (2 : Int32).toInt = 2 := (by decide); have l_3 : (3 : Int32).toInt = 3 := (by decide); have l_30 : (30 : Int32).toInt = 30 := (by decide); have qc_1 := c_1; (try simp only [fc_le, fc_lt, fc_eq] at qc_1); have qc_2 := c_2; (try simp only [fc_le, fc_lt, fc_eq] at qc_2); rw [vp_in_iff]; omega) dX3_tell_34 (fun H locs hP hD hS => ?_)
      have hP : va_P D vwCl [(h0, .inr (3, [.ref ht, .int rt, .int rc, .int rl, .int rs, .int re, .int rb])), (ht, .inl (tc 0, 30, .inl (upd told (((rb - rb / 10 * 10) * 3) : Int32).toNatClampNeg re)))] H := hP
      have hD : va_D A [(h0, .inr (3, [.ref ht, .int rt, .int rc, .int rl, .int rs, .int re, .int rb])), (ht, .inl (tc 0, 30, .inl (upd told (((rb - rb / 10 * 10) * 3) : Int32).toNatClampNeg re)))] := hD
      refine lv_aload_n hx hb dX3_tell_35 rfl (lv_at hl 1 rfl) ?_
      refine va_get (D := D) (ci := 3) (v := .ref ht) (C := RX3) (T := TX3) (N := 7) hx hb hts iX3_tell_X3 hown hK hP 0 rfl rfl 0 (by decide) (hts (.fieldLink RX3 9 "FrameCard$Rounds" "told" "[I") (by decide +kernel)) (fun _ h9 => h9) rfl dX3_tell_36 ?_
      refine lv_iload_n hx hb dX3_tell_39 rfl (lv_at hl 0 rfl) ?_
      refine lv_iconst (v := 1) hx hb dX3_tell_40 (by decide) ?_
      refine lv_iadd hx hb dX3_tell_41 ?_
      refine lv_iload_n hx hb dX3_tell_42 rfl (lv_at hl 2 rfl) ?_
      refine va_iast (D := D) hx hb hK hP hD hS 1 0 rfl rfl (by have l_0 : (0 : Int32).toInt = 0 := (by decide); have l_1 : (1 : Int32).toInt = 1 := (by decide); have l_10 : (10 : Int32).toInt = 10 := (by decide); have l_2 : (2 : Int32).toInt = 2 := (by decide); have l_3 : (3 : Int32).toInt = 3 := (by decide); have l_30 : (30 : Int32).toInt = 30 := (by decide); have qc_1 := c_1; (try simp only [fc_le, fc_lt, fc_eq] at qc_1); have qc_2 := c_2; (try simp only [fc_le, fc_lt, fc_eq] at qc_2); rw [vp_in_iff]; omega) dX3_tell_43 (fun H locs hP hD hS => ?_)
      have hP : va_P D vwCl [(h0, .inr (3, [.ref ht, .int rt, .int rc, .int rl, .int rs, .int re, .int rb])), (ht, .inl (tc 0, 30, .inl (upd (upd told (((rb - rb / 10 * 10) * 3) : Int32).toNatClampNeg re) ((((rb - rb / 10 * 10) * 3) + 1) : Int32).toNatClampNeg p0)))] H := hP
      have hD : va_D A [(h0, .inr (3, [.ref ht, .int rt, .int rc, .int rl, .int rs, .int re, .int rb])), (ht, .inl (tc 0, 30, .inl (upd (upd told (((rb - rb / 10 * 10) * 3) : Int32).toNatClampNeg re) ((((rb - rb / 10 * 10) * 3) + 1) : Int32).toNatClampNeg p0)))] := hD
      refine lv_aload_n hx hb dX3_tell_44 rfl (lv_at hl 1 rfl) ?_
      refine va_get (D := D) (ci := 3) (v := .ref ht) (C := RX3) (T := TX3) (N := 7) hx hb hts iX3_tell_X3 hown hK hP 0 rfl rfl 0 (by decide) (hts (.fieldLink RX3 9 "FrameCard$Rounds" "told" "[I") (by decide +kernel)) (fun _ h9 => h9) rfl dX3_tell_45 ?_
      refine lv_iload_n hx hb dX3_tell_48 rfl (lv_at hl 0 rfl) ?_
      refine lv_iconst (v := 2) hx hb dX3_tell_49 (by decide) ?_
      refine lv_iadd hx hb dX3_tell_50 ?_
      refine lv_aload_n hx hb dX3_tell_51 rfl (lv_at hl 1 rfl) ?_
      refine va_get (D := D) (ci := 3) (v := .int rs) (C := RX3) (T := TX3) (N := 7) hx hb hts iX3_tell_X3 hown hK hP 0 rfl rfl 4 (by decide) (hts (.fieldLink RX3 34 "FrameCard$Rounds" "stored" "I") (by decide +kernel)) (fun _ h9 => h9) rfl dX3_tell_52 ?_
      refine va_iast (D := D) hx hb hK hP hD hS 1 0 rfl rfl (by have l_0 : (0 : Int32).toInt = 0 := (by decide); have l_10 : (10 : Int32).toInt = 10 := (by decide); have l_2 : (2 : Int32).toInt = 2 := (by decide); have l_3 : (3 : Int32).toInt = 3 := (by decide); have l_30 : (30 : Int32).toInt = 30 := (by decide); have qc_1 := c_1; (try simp only [fc_le, fc_lt, fc_eq] at qc_1); have qc_2 := c_2; (try simp only [fc_le, fc_lt, fc_eq] at qc_2); rw [vp_in_iff]; omega) dX3_tell_55 (fun H locs hP hD hS => ?_)
      have hP : va_P D vwCl [(h0, .inr (3, [.ref ht, .int rt, .int rc, .int rl, .int rs, .int re, .int rb])), (ht, .inl (tc 0, 30, .inl (upd (upd (upd told (((rb - rb / 10 * 10) * 3) : Int32).toNatClampNeg re) ((((rb - rb / 10 * 10) * 3) + 1) : Int32).toNatClampNeg p0) ((((rb - rb / 10 * 10) * 3) + 2) : Int32).toNatClampNeg rs)))] H := hP
      have hD : va_D A [(h0, .inr (3, [.ref ht, .int rt, .int rc, .int rl, .int rs, .int re, .int rb])), (ht, .inl (tc 0, 30, .inl (upd (upd (upd told (((rb - rb / 10 * 10) * 3) : Int32).toNatClampNeg re) ((((rb - rb / 10 * 10) * 3) + 1) : Int32).toNatClampNeg p0) ((((rb - rb / 10 * 10) * 3) + 2) : Int32).toNatClampNeg rs)))] := hD
      refine lv_aload_n hx hb dX3_tell_56 rfl (lv_at hl 1 rfl) ?_
      refine lv_dup hx hb dX3_tell_57 rfl ?_
      refine va_get (D := D) (ci := 3) (v := .int rb) (C := RX3) (T := TX3) (N := 7) hx hb hts iX3_tell_X3 hown hK hP 0 rfl rfl 6 (by decide) (hts (.fieldLink RX3 22 "FrameCard$Rounds" "broken" "I") (by decide +kernel)) (fun _ h9 => h9) rfl dX3_tell_58 ?_
      refine lv_iconst (v := 1) hx hb dX3_tell_61 (by decide) ?_
      refine lv_iadd hx hb dX3_tell_62 ?_
      refine va_put (D := D) (ci := 3) (v := .int (rb + 1)) (ty := .int) (C := RX3) (T := TX3) (N := 7) hx hb hts iX3_tell_X3 tyX3 tyX3_ok nmX3 hown hK hP hD hS 0 rfl rfl 6 (by decide) (hts (.fieldLink RX3 22 "FrameCard$Rounds" "broken" "I") (by decide +kernel)) (fun _ h9 => h9) rfl (by decide +kernel) rfl rfl (Nat.le_of_ble_eq_true rfl) dX3_tell_63 (fun H locs hP hD hS => ?_)
      have hP : va_P D vwCl [(h0, .inr (3, [.ref ht, .int rt, .int rc, .int rl, .int rs, .int re, .int (rb + 1)])), (ht, .inl (tc 0, 30, .inl (upd (upd (upd told (((rb - rb / 10 * 10) * 3) : Int32).toNatClampNeg re) ((((rb - rb / 10 * 10) * 3) + 1) : Int32).toNatClampNeg p0) ((((rb - rb / 10 * 10) * 3) + 2) : Int32).toNatClampNeg rs)))] H := hP
      have hD : va_D A [(h0, .inr (3, [.ref ht, .int rt, .int rc, .int rl, .int rs, .int re, .int (rb + 1)])), (ht, .inl (tc 0, 30, .inl (upd (upd (upd told (((rb - rb / 10 * 10) * 3) : Int32).toNatClampNeg re) ((((rb - rb / 10 * 10) * 3) + 1) : Int32).toNatClampNeg p0) ((((rb - rb / 10 * 10) * 3) + 2) : Int32).toNatClampNeg rs)))] := hD
      exact hret _ _ ((rb + 1), (upd (upd (upd told (((rb - rb / 10 * 10) * 3) : Int32).toNatClampNeg re) ((((rb - rb / 10 * 10) * 3) + 1) : Int32).toNatClampNeg p0) ((((rb - rb / 10 * 10) * 3) + 2) : Int32).toNatClampNeg rs)) _ _ (by rw [mX3_tell]; (try dsimp only); rw [if_neg c_1]; rw [if_neg c_2]; (first | done | rfl)) (hP.sub [0, 1] rfl) (hD.sub [0, 1] (by decide) rfl) hS dX3_tell_66
theorem hd_X3_reason : yX3_reason.cls = RX3 ∧ yX3_reason.cls ≠ "java/lang/invoke/MethodHandle" ∧ yX3_reason.cls ≠ "java/lang/invoke/VarHandle" ∧ (parseMethodDescriptor yX3_reason.desc).map (fun d => d.parameters.length) = some 2 := by decide +kernel
theorem hd_X3_reasonn : yX3_reason.cls ≠ "java/lang/invoke/MethodHandle" ∧ yX3_reason.cls ≠ "java/lang/invoke/VarHandle" ∧ (parseMethodDescriptor yX3_reason.desc).map (fun d => d.parameters.length) = some 2 := by decide +kernel
theorem hd_X3_tell : yX3_tell.cls = RX3 ∧ yX3_tell.cls ≠ "java/lang/invoke/MethodHandle" ∧ yX3_tell.cls ≠ "java/lang/invoke/VarHandle" ∧ (parseMethodDescriptor yX3_tell.desc).map (fun d => d.parameters.length) = some 1 := by decide +kernel
theorem hd_X3_telln : yX3_tell.cls ≠ "java/lang/invoke/MethodHandle" ∧ yX3_tell.cls ≠ "java/lang/invoke/VarHandle" ∧ (parseMethodDescriptor yX3_tell.desc).map (fun d => d.parameters.length) = some 1 := by decide +kernel
noncomputable def mX3_end (told : Nat → Int32) (rt : Int32) (rc : Int32) (rl : Int32) (rs : Int32) (re : Int32) (rb : Int32) (p0 : Int32) (p1 : Int32) : Int32 × Int32 × Int32 × Int32 × Int32 × Int32 × (Nat → Int32) :=
  if p0 ≤ rs then
    match mX3_beginRound told rt rc rl rs (re + 1) rb with
    | (rt_2, rc_2, rl_2, rs_2) =>
      (rt_2, rc_2, rl_2, rs_2, (re + 1), rb, told)
  else
    let r_3 := mX3_reason told rt rc rl rs re rb p0 p1
    match mX3_tell told rt rc rl rs re rb r_3 with
    | (rb_4, told_4) =>
      match mX3_beginRound told_4 rt rc rl rs (re + 1) rb_4 with
      | (rt_5, rc_5, rl_5, rs_5) =>
        (rt_5, rc_5, rl_5, rs_5, (re + 1), rb_4, told_4)
set_option maxRecDepth 20000 in
theorem iX3_end_X3 : ∀ w ∈ wsX30, w ∈ wsX3_end := by decide +kernel
abbrev rmX3_end : Room := { frames := 1, cells := 0, slots := 0, locals := 22 }
set_option maxHeartbeats 4000000 in
set_option maxRecDepth 100000 in
theorem c_X3_end (l : Launch) (D : va_G) (tc : Nat → ClassId) (h0 : Nat) (ht : Nat) (told : Nat → Int32) (rt : Int32) (rc : Int32) (rl : Int32) (rs : Int32) (re : Int32) (rb : Int32) (p0 : Int32) (p1 : Int32) (sz : Nat) : Met l yX3_end wsX3_end rmX3_end (va_Pc [.ref h0, .int p0, .int p1] (fcB D tc [(h0, .inr (3, [.ref ht, .int rt, .int rc, .int rl, .int rs, .int re, .int rb])), (ht, .inl (tc 0, 30, .inl told))] sz)) (va_Qv (fun (u : Int32 × Int32 × Int32 × Int32 × Int32 × Int32 × (Nat → Int32)) => mX3_end told rt rc rl rs re rb p0 p1 = u) (fun u t => fcO D (va_A [(h0, .inr (3, [.ref ht, .int rt, .int rc, .int rl, .int rs, .int re, .int rb])), (ht, .inl (tc 0, 30, .inl told))] sz) ((fun (u : Int32 × Int32 × Int32 × Int32 × Int32 × Int32 × (Nat → Int32)) => [(h0, .inr (3, [.ref ht, .int (u.1), .int (u.2.1), .int (u.2.2.1), .int (u.2.2.2.1), .int (u.2.2.2.2.1), .int (u.2.2.2.2.2.1)])), (ht, .inl (tc 0, 30, .inl (u.2.2.2.2.2.2)))]) u) t) (va_A [(h0, .inr (3, [.ref ht, .int rt, .int rc, .int rl, .int rs, .int re, .int rb])), (ht, .inl (tc 0, 30, .inl told))] sz)) 0 0 (va_A [(h0, .inr (3, [.ref ht, .int rt, .int rc, .int rl, .int rs, .int re, .int rb])), (ht, .inl (tc 0, 30, .inl told))] sz) := by
  refine fc_ofWv (own := RX3) (cc := cX3_end) (maxL := 3) (W1 := (fun (u : Int32 × Int32 × Int32 × Int32 × Int32 × Int32 × (Nat → Int32)) => [(h0, .inr (3, [.ref ht, .int (u.1), .int (u.2.1), .int (u.2.2.1), .int (u.2.2.2.1), .int (u.2.2.2.2.1), .int (u.2.2.2.2.2.1)])), (ht, .inl (tc 0, 30, .inl (u.2.2.2.2.2.2)))])) rfl (by decide) rfl (Nat.le_of_ble_eq_true rfl) ?_
  intro p e s m args below meth c A Q hx hb hml hown hts hK hE hP hD hS hA hin hret ls hl
  have hl : lv_has ls 3 [(0, .ref h0), (1, .int p0), (2, .int p1)] := hl
  refine lv_aload_n hx hb dX3_end_0 rfl (lv_at hl 0 rfl) ?_
  refine va_get (D := D) (ci := 3) (v := .int rs) (C := RX3) (T := TX3) (N := 7) hx hb hts iX3_end_X3 hown hK hP 0 rfl rfl 4 (by decide) (hts (.fieldLink RX3 34 "FrameCard$Rounds" "stored" "I") (by decide +kernel)) (fun _ h9 => h9) rfl dX3_end_1 ?_
  refine lv_iload_n hx hb dX3_end_4 rfl (lv_at hl 1 rfl) ?_
  refine lv_icmp_ge (tgt := 18) hx hb dX3_end_5 (by decide) (fun c_1 => ?_) (fun c_1 => ?_)
  · refine lv_aload_n hx hb dX3_end_18 rfl (lv_at hl 0 rfl) ?_
    refine lv_dup hx hb dX3_end_19 rfl ?_
    refine va_get (D := D) (ci := 3) (v := .int re) (C := RX3) (T := TX3) (N := 7) hx hb hts iX3_end_X3 hown hK hP 0 rfl rfl 5 (by decide) (hts (.fieldLink RX3 18 "FrameCard$Rounds" "ended" "I") (by decide +kernel)) (fun _ h9 => h9) rfl dX3_end_20 ?_
    refine lv_iconst (v := 1) hx hb dX3_end_23 (by decide) ?_
    refine lv_iadd hx hb dX3_end_24 ?_
    refine va_put (D := D) (ci := 3) (v := .int (re + 1)) (ty := .int) (C := RX3) (T := TX3) (N := 7) hx hb hts iX3_end_X3 tyX3 tyX3_ok nmX3 hown hK hP hD hS 0 rfl rfl 5 (by decide) (hts (.fieldLink RX3 18 "FrameCard$Rounds" "ended" "I") (by decide +kernel)) (fun _ h9 => h9) rfl (by decide +kernel) rfl rfl (Nat.le_of_ble_eq_true rfl) dX3_end_25 (fun H locs hP hD hS => ?_)
    have hP : va_P D vwCl [(h0, .inr (3, [.ref ht, .int rt, .int rc, .int rl, .int rs, .int (re + 1), .int rb])), (ht, .inl (tc 0, 30, .inl told))] H := hP
    have hD : va_D A [(h0, .inr (3, [.ref ht, .int rt, .int rc, .int rl, .int rs, .int (re + 1), .int rb])), (ht, .inl (tc 0, 30, .inl told))] := hD
    refine lv_aload_n hx hb dX3_end_28 rfl (lv_at hl 0 rfl) ?_
    refine fc_gov (isC := [0, 1]) (isR := []) (wc := [(h0, .inr (3, [.ref ht, .int rt, .int rc, .int rl, .int rs, .int (re + 1), .int rb])), (ht, .inl (tc 0, 30, .inl told))]) (wr := []) hP hD hS hA rfl rfl (by decide) (by decide) (fc_runV (isC := [0, 1]) (As := []) (rest := []) hx hb hml hown hts hK hE hP hD hS hA rfl (by decide) (c_X3_beginRound l D tc h0 ht told rt rc rl rs (re + 1) rb _ ) (cwV 0 hts gX3_end_X3_beginRound rfl rfl rfl hd_X3_beginRound ⟨Nat.le_of_ble_eq_true rfl, Nat.le_of_ble_eq_true rfl⟩) (ci := 3) rfl rfl rfl rfl hl.1 rfl (Nat.le_of_ble_eq_true rfl) dX3_end_29 ⟨Nat.le_of_ble_eq_true rfl, Nat.le_of_ble_eq_true rfl⟩) (fun u_2 H locs hw_2 hP hD hS => ?_)
    obtain ⟨rt_2, rc_2, rl_2, rs_2⟩ := u_2
    try dsimp only at hw_2
    have hP : va_P D vwCl [(h0, .inr (3, [.ref ht, .int rt_2, .int rc_2, .int rl_2, .int rs_2, .int (re + 1), .int rb])), (ht, .inl (tc 0, 30, .inl told))] H := hP
    have hD : va_D A [(h0, .inr (3, [.ref ht, .int rt_2, .int rc_2, .int rl_2, .int rs_2, .int (re + 1), .int rb])), (ht, .inl (tc 0, 30, .inl told))] := hD
    exact hret _ _ (rt_2, rc_2, rl_2, rs_2, (re + 1), rb, told) _ _ (by rw [mX3_end]; (try dsimp only); rw [if_pos c_1]; rw [hw_2]; (try dsimp only); (first | done | rfl)) (hP.sub [0, 1] rfl) (hD.sub [0, 1] (by decide) rfl) hS dX3_end_32
  · refine lv_aload_n hx hb dX3_end_8 rfl (lv_at hl 0 rfl) ?_
    refine lv_aload_n hx hb dX3_end_9 rfl (lv_at hl 0 rfl) ?_
    refine lv_iload_n hx hb dX3_end_10 rfl (lv_at hl 1 rfl) ?_
    refine lv_iload_n hx hb dX3_end_11 rfl (lv_at hl 2 rfl) ?_
    refine fc_goi (isC := [0, 1]) (isR := []) (wc := [(h0, .inr (3, [.ref ht, .int rt, .int rc, .int rl, .int rs, .int re, .int rb])), (ht, .inl (tc 0, 30, .inl told))]) (wr := []) hP hD hS hA rfl rfl (by decide) (by decide) (fc_runV (isC := [0, 1]) (As := [.int p0, .int p1]) (rest := [.ref h0]) hx hb hml hown hts hK hE hP hD hS hA rfl (by decide) (c_X3_reason l D tc h0 ht told rt rc rl rs re rb p0 p1 _ ) (cwV 2 hts gX3_end_X3_reason rfl rfl rfl hd_X3_reason ⟨Nat.le_of_ble_eq_true rfl, Nat.le_of_ble_eq_true rfl⟩) (ci := 3) rfl rfl rfl rfl hl.1 rfl (Nat.le_of_ble_eq_true rfl) dX3_end_12 ⟨Nat.le_of_ble_eq_true rfl, Nat.le_of_ble_eq_true rfl⟩) (fun r_3 u_3 H locs hw_3 hP hD hS => ?_)
    try dsimp only at hw_3
    have hP : va_P D vwCl [(h0, .inr (3, [.ref ht, .int rt, .int rc, .int rl, .int rs, .int re, .int rb])), (ht, .inl (tc 0, 30, .inl told))] H := hP
    have hD : va_D A [(h0, .inr (3, [.ref ht, .int rt, .int rc, .int rl, .int rs, .int re, .int rb])), (ht, .inl (tc 0, 30, .inl told))] := hD
    refine fc_gov (isC := [0, 1]) (isR := []) (wc := [(h0, .inr (3, [.ref ht, .int rt, .int rc, .int rl, .int rs, .int re, .int rb])), (ht, .inl (tc 0, 30, .inl told))]) (wr := []) hP hD hS hA rfl rfl (by decide) (by decide) (fc_runV (isC := [0, 1]) (As := [.int r_3]) (rest := []) hx hb hml hown hts hK hE hP hD hS hA rfl (by decide) (c_X3_tell l D tc h0 ht told rt rc rl rs re rb r_3 _ ) (cwV 1 hts gX3_end_X3_tell rfl rfl rfl hd_X3_tell ⟨Nat.le_of_ble_eq_true rfl, Nat.le_of_ble_eq_true rfl⟩) (ci := 3) rfl rfl rfl rfl hl.1 rfl (Nat.le_of_ble_eq_true rfl) dX3_end_15 ⟨Nat.le_of_ble_eq_true rfl, Nat.le_of_ble_eq_true rfl⟩) (fun u_4 H locs hw_4 hP hD hS => ?_)
    obtain ⟨rb_4, told_4⟩ := u_4
    try dsimp only at hw_4
    have hP : va_P D vwCl [(h0, .inr (3, [.ref ht, .int rt, .int rc, .int rl, .int rs, .int re, .int rb_4])), (ht, .inl (tc 0, 30, .inl told_4))] H := hP
    have hD : va_D A [(h0, .inr (3, [.ref ht, .int rt, .int rc, .int rl, .int rs, .int re, .int rb_4])), (ht, .inl (tc 0, 30, .inl told_4))] := hD
    refine lv_aload_n hx hb dX3_end_18 rfl (lv_at hl 0 rfl) ?_
    refine lv_dup hx hb dX3_end_19 rfl ?_
    refine va_get (D := D) (ci := 3) (v := .int re) (C := RX3) (T := TX3) (N := 7) hx hb hts iX3_end_X3 hown hK hP 0 rfl rfl 5 (by decide) (hts (.fieldLink RX3 18 "FrameCard$Rounds" "ended" "I") (by decide +kernel)) (fun _ h9 => h9) rfl dX3_end_20 ?_
    refine lv_iconst (v := 1) hx hb dX3_end_23 (by decide) ?_
    refine lv_iadd hx hb dX3_end_24 ?_
    refine va_put (D := D) (ci := 3) (v := .int (re + 1)) (ty := .int) (C := RX3) (T := TX3) (N := 7) hx hb hts iX3_end_X3 tyX3 tyX3_ok nmX3 hown hK hP hD hS 0 rfl rfl 5 (by decide) (hts (.fieldLink RX3 18 "FrameCard$Rounds" "ended" "I") (by decide +kernel)) (fun _ h9 => h9) rfl (by decide +kernel) rfl rfl (Nat.le_of_ble_eq_true rfl) dX3_end_25 (fun H locs hP hD hS => ?_)
    have hP : va_P D vwCl [(h0, .inr (3, [.ref ht, .int rt, .int rc, .int rl, .int rs, .int (re + 1), .int rb_4])), (ht, .inl (tc 0, 30, .inl told_4))] H := hP
    have hD : va_D A [(h0, .inr (3, [.ref ht, .int rt, .int rc, .int rl, .int rs, .int (re + 1), .int rb_4])), (ht, .inl (tc 0, 30, .inl told_4))] := hD
    refine lv_aload_n hx hb dX3_end_28 rfl (lv_at hl 0 rfl) ?_
    refine fc_gov (isC := [0, 1]) (isR := []) (wc := [(h0, .inr (3, [.ref ht, .int rt, .int rc, .int rl, .int rs, .int (re + 1), .int rb_4])), (ht, .inl (tc 0, 30, .inl told_4))]) (wr := []) hP hD hS hA rfl rfl (by decide) (by decide) (fc_runV (isC := [0, 1]) (As := []) (rest := []) hx hb hml hown hts hK hE hP hD hS hA rfl (by decide) (c_X3_beginRound l D tc h0 ht told_4 rt rc rl rs (re + 1) rb_4 _ ) (cwV 0 hts gX3_end_X3_beginRound rfl rfl rfl hd_X3_beginRound ⟨Nat.le_of_ble_eq_true rfl, Nat.le_of_ble_eq_true rfl⟩) (ci := 3) rfl rfl rfl rfl hl.1 rfl (Nat.le_of_ble_eq_true rfl) dX3_end_29 ⟨Nat.le_of_ble_eq_true rfl, Nat.le_of_ble_eq_true rfl⟩) (fun u_5 H locs hw_5 hP hD hS => ?_)
    obtain ⟨rt_5, rc_5, rl_5, rs_5⟩ := u_5
    try dsimp only at hw_5
    have hP : va_P D vwCl [(h0, .inr (3, [.ref ht, .int rt_5, .int rc_5, .int rl_5, .int rs_5, .int (re + 1), .int rb_4])), (ht, .inl (tc 0, 30, .inl told_4))] H := hP
    have hD : va_D A [(h0, .inr (3, [.ref ht, .int rt_5, .int rc_5, .int rl_5, .int rs_5, .int (re + 1), .int rb_4])), (ht, .inl (tc 0, 30, .inl told_4))] := hD
    exact hret _ _ (rt_5, rc_5, rl_5, rs_5, (re + 1), rb_4, told_4) _ _ (by rw [mX3_end]; (try dsimp only); rw [if_neg c_1]; rw [hw_3]; (try dsimp only); rw [hw_4]; (try dsimp only); rw [hw_5]; (try dsimp only); (first | done | rfl)) (hP.sub [0, 1] rfl) (hD.sub [0, 1] (by decide) rfl) hS dX3_end_32
noncomputable def mX3_tells (told : Nat → Int32) (rt : Int32) (rc : Int32) (rl : Int32) (rs : Int32) (re : Int32) (rb : Int32) (p0 : Int32) : Int32 :=
  if p0 < 0 then
    0
  else
    if 10 ≤ p0 then
      0
    else
      if rb ≤ p0 then
        0
      else
        1
set_option maxRecDepth 20000 in
theorem iX3_tells_X3 : ∀ w ∈ wsX30, w ∈ wsX3_tells := by decide +kernel
abbrev rmX3_tells : Room := { frames := 0, cells := 0, slots := 0, locals := 0 }
set_option maxHeartbeats 4000000 in
set_option maxRecDepth 100000 in
theorem c_X3_tells (l : Launch) (D : va_G) (tc : Nat → ClassId) (h0 : Nat) (ht : Nat) (told : Nat → Int32) (rt : Int32) (rc : Int32) (rl : Int32) (rs : Int32) (re : Int32) (rb : Int32) (p0 : Int32) (sz : Nat) : Met l yX3_tells wsX3_tells rmX3_tells (va_Pc [.ref h0, .int p0] (fcB D tc [(h0, .inr (3, [.ref ht, .int rt, .int rc, .int rl, .int rs, .int re, .int rb])), (ht, .inl (tc 0, 30, .inl told))] sz)) (va_Qi (fun (r : Int32) (_ : Unit) => mX3_tells told rt rc rl rs re rb p0 = r) (fun u t => fcO D (va_A [(h0, .inr (3, [.ref ht, .int rt, .int rc, .int rl, .int rs, .int re, .int rb])), (ht, .inl (tc 0, 30, .inl told))] sz) ((fun (_ : Unit) => [(h0, .inr (3, [.ref ht, .int rt, .int rc, .int rl, .int rs, .int re, .int rb])), (ht, .inl (tc 0, 30, .inl told))]) u) t) (va_A [(h0, .inr (3, [.ref ht, .int rt, .int rc, .int rl, .int rs, .int re, .int rb])), (ht, .inl (tc 0, 30, .inl told))] sz)) 0 0 (va_A [(h0, .inr (3, [.ref ht, .int rt, .int rc, .int rl, .int rs, .int re, .int rb])), (ht, .inl (tc 0, 30, .inl told))] sz) := by
  refine fc_ofWz (own := RX3) (cc := cX3_tells) (maxL := 2) (W1 := (fun (_ : Unit) => [(h0, .inr (3, [.ref ht, .int rt, .int rc, .int rl, .int rs, .int re, .int rb])), (ht, .inl (tc 0, 30, .inl told))])) rfl (by decide) rfl (Nat.le_of_ble_eq_true rfl) ?_
  intro p e s m args below meth c A Q hx hb hml hown hts hK hE hP hD hS hA hin hret ls hl
  have hl : lv_has ls 2 [(0, .ref h0), (1, .int p0)] := hl
  refine lv_iload_n hx hb dX3_tells_0 rfl (lv_at hl 1 rfl) ?_
  refine lv_if_lt (tgt := 22) hx hb dX3_tells_1 (by decide) (fun c_1 => ?_) (fun c_1 => ?_)
  · refine lv_iconst (v := 0) hx hb dX3_tells_22 (by decide) ?_
    exact hret _ _ (0) () _ _ (Or.inl rfl) (by rw [mX3_tells]; (try dsimp only); rw [if_pos c_1]; (first | done | rfl)) (hP.sub [0, 1] rfl) (hD.sub [0, 1] (by decide) rfl) hS dX3_tells_23
  · refine lv_iload_n hx hb dX3_tells_4 rfl (lv_at hl 1 rfl) ?_
    refine lv_bipush (v := 10) hx hb dX3_tells_5 (by decide) ?_
    refine lv_icmp_ge (tgt := 22) hx hb dX3_tells_7 (by decide) (fun c_2 => ?_) (fun c_2 => ?_)
    · refine lv_iconst (v := 0) hx hb dX3_tells_22 (by decide) ?_
      exact hret _ _ (0) () _ _ (Or.inl rfl) (by rw [mX3_tells]; (try dsimp only); rw [if_neg c_1]; rw [if_pos c_2]; (first | done | rfl)) (hP.sub [0, 1] rfl) (hD.sub [0, 1] (by decide) rfl) hS dX3_tells_23
    · refine lv_iload_n hx hb dX3_tells_10 rfl (lv_at hl 1 rfl) ?_
      refine lv_aload_n hx hb dX3_tells_11 rfl (lv_at hl 0 rfl) ?_
      refine va_get (D := D) (ci := 3) (v := .int rb) (C := RX3) (T := TX3) (N := 7) hx hb hts iX3_tells_X3 hown hK hP 0 rfl rfl 6 (by decide) (hts (.fieldLink RX3 22 "FrameCard$Rounds" "broken" "I") (by decide +kernel)) (fun _ h9 => h9) rfl dX3_tells_12 ?_
      refine lv_icmp_ge (tgt := 22) hx hb dX3_tells_15 (by decide) (fun c_3 => ?_) (fun c_3 => ?_)
      · refine lv_iconst (v := 0) hx hb dX3_tells_22 (by decide) ?_
        exact hret _ _ (0) () _ _ (Or.inl rfl) (by rw [mX3_tells]; (try dsimp only); rw [if_neg c_1]; rw [if_neg c_2]; rw [if_pos c_3]; (first | done | rfl)) (hP.sub [0, 1] rfl) (hD.sub [0, 1] (by decide) rfl) hS dX3_tells_23
      · refine lv_iconst (v := 1) hx hb dX3_tells_18 (by decide) ?_
        refine lv_goto (tgt := 23) hx hb dX3_tells_19 (by decide) ?_
        exact hret _ _ (1) () _ _ (Or.inr rfl) (by rw [mX3_tells]; (try dsimp only); rw [if_neg c_1]; rw [if_neg c_2]; rw [if_neg c_3]; (first | done | rfl)) (hP.sub [0, 1] rfl) (hD.sub [0, 1] (by decide) rfl) hS dX3_tells_23
noncomputable def mX3_get (told : Nat → Int32) (rt : Int32) (rc : Int32) (rl : Int32) (rs : Int32) (re : Int32) (rb : Int32) (p0 : Int32) (p1 : Int32) : Int32 :=
  if (((((rb - 1) - p0) - ((rb - 1) - p0) / 10 * 10) * 3) + p1) < 0 then
    (-1)
  else
    if 30 ≤ (((((rb - 1) - p0) - ((rb - 1) - p0) / 10 * 10) * 3) + p1) then
      (-1)
    else
      (told ((((((rb - 1) - p0) - ((rb - 1) - p0) / 10 * 10) * 3) + p1) : Int32).toNatClampNeg)
set_option maxRecDepth 20000 in
theorem iX3_get_X3 : ∀ w ∈ wsX30, w ∈ wsX3_get := by decide +kernel
abbrev rmX3_get : Room := { frames := 0, cells := 0, slots := 0, locals := 0 }
set_option maxHeartbeats 4000000 in
set_option maxRecDepth 100000 in
theorem c_X3_get (l : Launch) (D : va_G) (tc : Nat → ClassId) (h0 : Nat) (ht : Nat) (told : Nat → Int32) (rt : Int32) (rc : Int32) (rl : Int32) (rs : Int32) (re : Int32) (rb : Int32) (p0 : Int32) (p1 : Int32) (sz : Nat) : Met l yX3_get wsX3_get rmX3_get (va_Pc [.ref h0, .int p0, .int p1] (fcB D tc [(h0, .inr (3, [.ref ht, .int rt, .int rc, .int rl, .int rs, .int re, .int rb])), (ht, .inl (tc 0, 30, .inl told))] sz)) (va_Qi (fun (r : Int32) (_ : Unit) => mX3_get told rt rc rl rs re rb p0 p1 = r) (fun u t => fcO D (va_A [(h0, .inr (3, [.ref ht, .int rt, .int rc, .int rl, .int rs, .int re, .int rb])), (ht, .inl (tc 0, 30, .inl told))] sz) ((fun (_ : Unit) => [(h0, .inr (3, [.ref ht, .int rt, .int rc, .int rl, .int rs, .int re, .int rb])), (ht, .inl (tc 0, 30, .inl told))]) u) t) (va_A [(h0, .inr (3, [.ref ht, .int rt, .int rc, .int rl, .int rs, .int re, .int rb])), (ht, .inl (tc 0, 30, .inl told))] sz)) 0 0 (va_A [(h0, .inr (3, [.ref ht, .int rt, .int rc, .int rl, .int rs, .int re, .int rb])), (ht, .inl (tc 0, 30, .inl told))] sz) := by
  refine fc_ofWi (own := RX3) (cc := cX3_get) (maxL := 4) (W1 := (fun (_ : Unit) => [(h0, .inr (3, [.ref ht, .int rt, .int rc, .int rl, .int rs, .int re, .int rb])), (ht, .inl (tc 0, 30, .inl told))])) rfl (by decide) rfl (Nat.le_of_ble_eq_true rfl) ?_
  intro p e s m args below meth c A Q hx hb hml hown hts hK hE hP hD hS hA hin hret ls hl
  have hl : lv_has ls 4 [(0, .ref h0), (1, .int p0), (2, .int p1)] := hl
  refine lv_aload_n hx hb dX3_get_0 rfl (lv_at hl 0 rfl) ?_
  refine va_get (D := D) (ci := 3) (v := .int rb) (C := RX3) (T := TX3) (N := 7) hx hb hts iX3_get_X3 hown hK hP 0 rfl rfl 6 (by decide) (hts (.fieldLink RX3 22 "FrameCard$Rounds" "broken" "I") (by decide +kernel)) (fun _ h9 => h9) rfl dX3_get_1 ?_
  refine lv_iconst (v := 1) hx hb dX3_get_4 (by decide) ?_
  refine lv_isub hx hb dX3_get_5 ?_
  refine lv_iload_n hx hb dX3_get_6 rfl (lv_at hl 1 rfl) ?_
  refine lv_isub hx hb dX3_get_7 ?_
  refine lv_bipush (v := 10) hx hb dX3_get_8 (by decide) ?_
  refine lv_irem hx hb dX3_get_10 (by decide) ?_
  refine lv_iconst (v := 3) hx hb dX3_get_11 (by decide) ?_
  refine lv_imul hx hb dX3_get_12 ?_
  refine lv_iload_n hx hb dX3_get_13 rfl (lv_at hl 2 rfl) ?_
  refine lv_iadd hx hb dX3_get_14 ?_
  refine lv_istore_n (lv' := [(3, .int (((((rb - 1) - p0) - ((rb - 1) - p0) / 10 * 10) * 3) + p1)), (0, .ref h0), (1, .int p0), (2, .int p1)]) hx hb dX3_get_15 rfl hl (by decide) rfl (fun ls hl => ?_)
  refine lv_iload_n hx hb dX3_get_16 rfl (lv_at hl 0 rfl) ?_
  refine lv_if_lt (tgt := 38) hx hb dX3_get_17 (by decide) (fun c_1 => ?_) (fun c_1 => ?_)
  · refine lv_iconst (v := (-1)) hx hb dX3_get_38 (by decide) ?_
    exact hret _ _ (-1) () _ _ (by rw [mX3_get]; (try dsimp only); rw [if_pos c_1]; (first | done | rfl)) (hP.sub [0, 1] rfl) (hD.sub [0, 1] (by decide) rfl) hS dX3_get_39
  · refine lv_iload_n hx hb dX3_get_20 rfl (lv_at hl 0 rfl) ?_
    refine lv_aload_n hx hb dX3_get_21 rfl (lv_at hl 1 rfl) ?_
    refine va_get (D := D) (ci := 3) (v := .ref ht) (C := RX3) (T := TX3) (N := 7) hx hb hts iX3_get_X3 hown hK hP 0 rfl rfl 0 (by decide) (hts (.fieldLink RX3 9 "FrameCard$Rounds" "told" "[I") (by decide +kernel)) (fun _ h9 => h9) rfl dX3_get_22 ?_
    refine va_alen (D := D) hx hb hK hP 1 0 rfl (ty := .int) rfl (v := 30) rfl dX3_get_25 ?_
    refine lv_icmp_ge (tgt := 38) hx hb dX3_get_26 (by decide) (fun c_2 => ?_) (fun c_2 => ?_)
    · refine lv_iconst (v := (-1)) hx hb dX3_get_38 (by decide) ?_
      exact hret _ _ (-1) () _ _ (by rw [mX3_get]; (try dsimp only); rw [if_neg c_1]; rw [if_pos c_2]; (first | done | rfl)) (hP.sub [0, 1] rfl) (hD.sub [0, 1] (by decide) rfl) hS dX3_get_39
    · refine lv_aload_n hx hb dX3_get_29 rfl (lv_at hl 1 rfl) ?_
      refine va_get (D := D) (ci := 3) (v := .ref ht) (C := RX3) (T := TX3) (N := 7) hx hb hts iX3_get_X3 hown hK hP 0 rfl rfl 0 (by decide) (hts (.fieldLink RX3 9 "FrameCard$Rounds" "told" "[I") (by decide +kernel)) (fun _ h9 => h9) rfl dX3_get_30 ?_
      refine lv_iload_n hx hb dX3_get_33 rfl (lv_at hl 0 rfl) ?_
      refine va_iald (D := D) hx hb hK hP 1 0 rfl rfl (by have l_0 : (0 : Int32).toInt = 0 := (by decide); have l_1 : (1 : Int32).toInt = 1 := (by decide); have l_10 : (10 : Int32).toInt = 10 := (by decide); have l_3 : (3 : Int32).toInt = 3 := (by decide); have l_30 : (30 : Int32).toInt = 30 := (by decide); have qc_1 := c_1; (try simp only [fc_le, fc_lt, fc_eq] at qc_1); have qc_2 := c_2; (try simp only [fc_le, fc_lt, fc_eq] at qc_2); rw [vp_in_iff]; omega) dX3_get_34 ?_
      refine lv_goto (tgt := 39) hx hb dX3_get_35 (by decide) ?_
      exact hret _ _ (told ((((((rb - 1) - p0) - ((rb - 1) - p0) / 10 * 10) * 3) + p1) : Int32).toNatClampNeg) () _ _ (by rw [mX3_get]; (try dsimp only); rw [if_neg c_1]; rw [if_neg c_2]; (first | done | rfl)) (hP.sub [0, 1] rfl) (hD.sub [0, 1] (by decide) rfl) hS dX3_get_39
noncomputable def mX3_copyFrom (told : Nat → Int32) (rt : Int32) (rc : Int32) (rl : Int32) (rs : Int32) (re : Int32) (rb : Int32) (gtold : Nat → Int32) (grt : Int32) (grc : Int32) (grl : Int32) (grs : Int32) (gre : Int32) (grb : Int32) : Int32 × Int32 × Int32 × Int32 × Int32 × Int32 × (Nat → Int32) :=
  (grt, grc, grl, grs, gre, grb, (va_cpy gtold told (0 : Int32).toNatClampNeg (0 : Int32).toNatClampNeg (30 : Int32).toNatClampNeg))
set_option maxRecDepth 20000 in
theorem iX3_copyFrom_X3 : ∀ w ∈ wsX30, w ∈ wsX3_copyFrom := by decide +kernel
abbrev rmX3_copyFrom : Room := { frames := 1, cells := 0, slots := 0, locals := 60 }
set_option maxHeartbeats 4000000 in
set_option maxRecDepth 100000 in
theorem c_X3_copyFrom (l : Launch) (D : va_G) (tc : Nat → ClassId) (h0 : Nat) (ht : Nat) (told : Nat → Int32) (rt : Int32) (rc : Int32) (rl : Int32) (rs : Int32) (re : Int32) (rb : Int32) (g0 : Nat) (gt : Nat) (gtold : Nat → Int32) (grt : Int32) (grc : Int32) (grl : Int32) (grs : Int32) (gre : Int32) (grb : Int32) (sz : Nat) : Met l yX3_copyFrom wsX3_copyFrom rmX3_copyFrom (va_Pc [.ref h0, .ref g0] (fcB D tc [(h0, .inr (3, [.ref ht, .int rt, .int rc, .int rl, .int rs, .int re, .int rb])), (ht, .inl (tc 0, 30, .inl told)), (g0, .inr (3, [.ref gt, .int grt, .int grc, .int grl, .int grs, .int gre, .int grb])), (gt, .inl (tc 0, 30, .inl gtold))] sz)) (va_Qv (fun (u : Int32 × Int32 × Int32 × Int32 × Int32 × Int32 × (Nat → Int32)) => mX3_copyFrom told rt rc rl rs re rb gtold grt grc grl grs gre grb = u) (fun u t => fcO D (va_A [(h0, .inr (3, [.ref ht, .int rt, .int rc, .int rl, .int rs, .int re, .int rb])), (ht, .inl (tc 0, 30, .inl told)), (g0, .inr (3, [.ref gt, .int grt, .int grc, .int grl, .int grs, .int gre, .int grb])), (gt, .inl (tc 0, 30, .inl gtold))] sz) ((fun (u : Int32 × Int32 × Int32 × Int32 × Int32 × Int32 × (Nat → Int32)) => [(h0, .inr (3, [.ref ht, .int (u.1), .int (u.2.1), .int (u.2.2.1), .int (u.2.2.2.1), .int (u.2.2.2.2.1), .int (u.2.2.2.2.2.1)])), (ht, .inl (tc 0, 30, .inl (u.2.2.2.2.2.2))), (g0, .inr (3, [.ref gt, .int grt, .int grc, .int grl, .int grs, .int gre, .int grb])), (gt, .inl (tc 0, 30, .inl gtold))]) u) t) (va_A [(h0, .inr (3, [.ref ht, .int rt, .int rc, .int rl, .int rs, .int re, .int rb])), (ht, .inl (tc 0, 30, .inl told)), (g0, .inr (3, [.ref gt, .int grt, .int grc, .int grl, .int grs, .int gre, .int grb])), (gt, .inl (tc 0, 30, .inl gtold))] sz)) 0 0 (va_A [(h0, .inr (3, [.ref ht, .int rt, .int rc, .int rl, .int rs, .int re, .int rb])), (ht, .inl (tc 0, 30, .inl told)), (g0, .inr (3, [.ref gt, .int grt, .int grc, .int grl, .int grs, .int gre, .int grb])), (gt, .inl (tc 0, 30, .inl gtold))] sz) := by
  refine fc_ofWv (own := RX3) (cc := cX3_copyFrom) (maxL := 2) (W1 := (fun (u : Int32 × Int32 × Int32 × Int32 × Int32 × Int32 × (Nat → Int32)) => [(h0, .inr (3, [.ref ht, .int (u.1), .int (u.2.1), .int (u.2.2.1), .int (u.2.2.2.1), .int (u.2.2.2.2.1), .int (u.2.2.2.2.2.1)])), (ht, .inl (tc 0, 30, .inl (u.2.2.2.2.2.2))), (g0, .inr (3, [.ref gt, .int grt, .int grc, .int grl, .int grs, .int gre, .int grb])), (gt, .inl (tc 0, 30, .inl gtold))])) rfl (by decide) rfl (Nat.le_of_ble_eq_true rfl) ?_
  intro p e s m args below meth c A Q hx hb hml hown hts hK hE hP hD hS hA hin hret ls hl
  have hl : lv_has ls 2 [(0, .ref h0), (1, .ref g0)] := hl
  refine lv_aload_n hx hb dX3_copyFrom_0 rfl (lv_at hl 1 rfl) ?_
  refine va_get (D := D) (ci := 3) (v := .ref gt) (C := RX3) (T := TX3) (N := 7) hx hb hts iX3_copyFrom_X3 hown hK hP 2 rfl rfl 0 (by decide) (hts (.fieldLink RX3 9 "FrameCard$Rounds" "told" "[I") (by decide +kernel)) (fun _ h9 => h9) rfl dX3_copyFrom_1 ?_
  refine lv_iconst (v := 0) hx hb dX3_copyFrom_4 (by decide) ?_
  refine lv_aload_n hx hb dX3_copyFrom_5 rfl (lv_at hl 0 rfl) ?_
  refine va_get (D := D) (ci := 3) (v := .ref ht) (C := RX3) (T := TX3) (N := 7) hx hb hts iX3_copyFrom_X3 hown hK hP 0 rfl rfl 0 (by decide) (hts (.fieldLink RX3 9 "FrameCard$Rounds" "told" "[I") (by decide +kernel)) (fun _ h9 => h9) rfl dX3_copyFrom_6 ?_
  refine lv_iconst (v := 0) hx hb dX3_copyFrom_9 (by decide) ?_
  refine lv_bipush (v := 30) hx hb dX3_copyFrom_10 (by decide) ?_
  refine va_copyi (D := D) hx hb (hml.trans hl.1.symm) hown (hts (.methodLink RX3 45 arraycopyName) (by decide +kernel)) (hts (.native arraycopyName) (by decide +kernel)) (hts (.static arraycopyName) (by decide +kernel)) (hts (.initialized "java/lang/System") (by decide +kernel)) hK hP hD hS 3 1 0 0 rfl rfl rfl rfl rfl (by decide) (by decide) (by decide) (by decide) (by decide) (fun _ _ => rfl) (Nat.le_of_ble_eq_true rfl) (by decide +kernel) dX3_copyFrom_12 (fun H locs hP hD hS => ?_)
  have hP : va_P D vwCl [(h0, .inr (3, [.ref ht, .int rt, .int rc, .int rl, .int rs, .int re, .int rb])), (ht, .inl (tc 0, 30, .inl (va_cpy gtold told (0 : Int32).toNatClampNeg (0 : Int32).toNatClampNeg (30 : Int32).toNatClampNeg))), (g0, .inr (3, [.ref gt, .int grt, .int grc, .int grl, .int grs, .int gre, .int grb])), (gt, .inl (tc 0, 30, .inl gtold))] H := hP
  have hD : va_D A [(h0, .inr (3, [.ref ht, .int rt, .int rc, .int rl, .int rs, .int re, .int rb])), (ht, .inl (tc 0, 30, .inl (va_cpy gtold told (0 : Int32).toNatClampNeg (0 : Int32).toNatClampNeg (30 : Int32).toNatClampNeg))), (g0, .inr (3, [.ref gt, .int grt, .int grc, .int grl, .int grs, .int gre, .int grb])), (gt, .inl (tc 0, 30, .inl gtold))] := hD
  refine lv_aload_n hx hb dX3_copyFrom_15 rfl (lv_at hl 0 rfl) ?_
  refine lv_aload_n hx hb dX3_copyFrom_16 rfl (lv_at hl 1 rfl) ?_
  refine va_get (D := D) (ci := 3) (v := .int grt) (C := RX3) (T := TX3) (N := 7) hx hb hts iX3_copyFrom_X3 hown hK hP 2 rfl rfl 1 (by decide) (hts (.fieldLink RX3 25 "FrameCard$Rounds" "ticksEnded" "I") (by decide +kernel)) (fun _ h9 => h9) rfl dX3_copyFrom_17 ?_
  refine va_put (D := D) (ci := 3) (v := .int grt) (ty := .int) (C := RX3) (T := TX3) (N := 7) hx hb hts iX3_copyFrom_X3 tyX3 tyX3_ok nmX3 hown hK hP hD hS 0 rfl rfl 1 (by decide) (hts (.fieldLink RX3 25 "FrameCard$Rounds" "ticksEnded" "I") (by decide +kernel)) (fun _ h9 => h9) rfl (by decide +kernel) rfl rfl (Nat.le_of_ble_eq_true rfl) dX3_copyFrom_20 (fun H locs hP hD hS => ?_)
  have hP : va_P D vwCl [(h0, .inr (3, [.ref ht, .int grt, .int rc, .int rl, .int rs, .int re, .int rb])), (ht, .inl (tc 0, 30, .inl (va_cpy gtold told (0 : Int32).toNatClampNeg (0 : Int32).toNatClampNeg (30 : Int32).toNatClampNeg))), (g0, .inr (3, [.ref gt, .int grt, .int grc, .int grl, .int grs, .int gre, .int grb])), (gt, .inl (tc 0, 30, .inl gtold))] H := hP
  have hD : va_D A [(h0, .inr (3, [.ref ht, .int grt, .int rc, .int rl, .int rs, .int re, .int rb])), (ht, .inl (tc 0, 30, .inl (va_cpy gtold told (0 : Int32).toNatClampNeg (0 : Int32).toNatClampNeg (30 : Int32).toNatClampNeg))), (g0, .inr (3, [.ref gt, .int grt, .int grc, .int grl, .int grs, .int gre, .int grb])), (gt, .inl (tc 0, 30, .inl gtold))] := hD
  refine lv_aload_n hx hb dX3_copyFrom_23 rfl (lv_at hl 0 rfl) ?_
  refine lv_aload_n hx hb dX3_copyFrom_24 rfl (lv_at hl 1 rfl) ?_
  refine va_get (D := D) (ci := 3) (v := .int grc) (C := RX3) (T := TX3) (N := 7) hx hb hts iX3_copyFrom_X3 hown hK hP 2 rfl rfl 2 (by decide) (hts (.fieldLink RX3 28 "FrameCard$Rounds" "came" "I") (by decide +kernel)) (fun _ h9 => h9) rfl dX3_copyFrom_25 ?_
  refine va_put (D := D) (ci := 3) (v := .int grc) (ty := .int) (C := RX3) (T := TX3) (N := 7) hx hb hts iX3_copyFrom_X3 tyX3 tyX3_ok nmX3 hown hK hP hD hS 0 rfl rfl 2 (by decide) (hts (.fieldLink RX3 28 "FrameCard$Rounds" "came" "I") (by decide +kernel)) (fun _ h9 => h9) rfl (by decide +kernel) rfl rfl (Nat.le_of_ble_eq_true rfl) dX3_copyFrom_28 (fun H locs hP hD hS => ?_)
  have hP : va_P D vwCl [(h0, .inr (3, [.ref ht, .int grt, .int grc, .int rl, .int rs, .int re, .int rb])), (ht, .inl (tc 0, 30, .inl (va_cpy gtold told (0 : Int32).toNatClampNeg (0 : Int32).toNatClampNeg (30 : Int32).toNatClampNeg))), (g0, .inr (3, [.ref gt, .int grt, .int grc, .int grl, .int grs, .int gre, .int grb])), (gt, .inl (tc 0, 30, .inl gtold))] H := hP
  have hD : va_D A [(h0, .inr (3, [.ref ht, .int grt, .int grc, .int rl, .int rs, .int re, .int rb])), (ht, .inl (tc 0, 30, .inl (va_cpy gtold told (0 : Int32).toNatClampNeg (0 : Int32).toNatClampNeg (30 : Int32).toNatClampNeg))), (g0, .inr (3, [.ref gt, .int grt, .int grc, .int grl, .int grs, .int gre, .int grb])), (gt, .inl (tc 0, 30, .inl gtold))] := hD
  refine lv_aload_n hx hb dX3_copyFrom_31 rfl (lv_at hl 0 rfl) ?_
  refine lv_aload_n hx hb dX3_copyFrom_32 rfl (lv_at hl 1 rfl) ?_
  refine va_get (D := D) (ci := 3) (v := .int grl) (C := RX3) (T := TX3) (N := 7) hx hb hts iX3_copyFrom_X3 hown hK hP 2 rfl rfl 3 (by decide) (hts (.fieldLink RX3 31 "FrameCard$Rounds" "lost" "I") (by decide +kernel)) (fun _ h9 => h9) rfl dX3_copyFrom_33 ?_
  refine va_put (D := D) (ci := 3) (v := .int grl) (ty := .int) (C := RX3) (T := TX3) (N := 7) hx hb hts iX3_copyFrom_X3 tyX3 tyX3_ok nmX3 hown hK hP hD hS 0 rfl rfl 3 (by decide) (hts (.fieldLink RX3 31 "FrameCard$Rounds" "lost" "I") (by decide +kernel)) (fun _ h9 => h9) rfl (by decide +kernel) rfl rfl (Nat.le_of_ble_eq_true rfl) dX3_copyFrom_36 (fun H locs hP hD hS => ?_)
  have hP : va_P D vwCl [(h0, .inr (3, [.ref ht, .int grt, .int grc, .int grl, .int rs, .int re, .int rb])), (ht, .inl (tc 0, 30, .inl (va_cpy gtold told (0 : Int32).toNatClampNeg (0 : Int32).toNatClampNeg (30 : Int32).toNatClampNeg))), (g0, .inr (3, [.ref gt, .int grt, .int grc, .int grl, .int grs, .int gre, .int grb])), (gt, .inl (tc 0, 30, .inl gtold))] H := hP
  have hD : va_D A [(h0, .inr (3, [.ref ht, .int grt, .int grc, .int grl, .int rs, .int re, .int rb])), (ht, .inl (tc 0, 30, .inl (va_cpy gtold told (0 : Int32).toNatClampNeg (0 : Int32).toNatClampNeg (30 : Int32).toNatClampNeg))), (g0, .inr (3, [.ref gt, .int grt, .int grc, .int grl, .int grs, .int gre, .int grb])), (gt, .inl (tc 0, 30, .inl gtold))] := hD
  refine lv_aload_n hx hb dX3_copyFrom_39 rfl (lv_at hl 0 rfl) ?_
  refine lv_aload_n hx hb dX3_copyFrom_40 rfl (lv_at hl 1 rfl) ?_
  refine va_get (D := D) (ci := 3) (v := .int grs) (C := RX3) (T := TX3) (N := 7) hx hb hts iX3_copyFrom_X3 hown hK hP 2 rfl rfl 4 (by decide) (hts (.fieldLink RX3 34 "FrameCard$Rounds" "stored" "I") (by decide +kernel)) (fun _ h9 => h9) rfl dX3_copyFrom_41 ?_
  refine va_put (D := D) (ci := 3) (v := .int grs) (ty := .int) (C := RX3) (T := TX3) (N := 7) hx hb hts iX3_copyFrom_X3 tyX3 tyX3_ok nmX3 hown hK hP hD hS 0 rfl rfl 4 (by decide) (hts (.fieldLink RX3 34 "FrameCard$Rounds" "stored" "I") (by decide +kernel)) (fun _ h9 => h9) rfl (by decide +kernel) rfl rfl (Nat.le_of_ble_eq_true rfl) dX3_copyFrom_44 (fun H locs hP hD hS => ?_)
  have hP : va_P D vwCl [(h0, .inr (3, [.ref ht, .int grt, .int grc, .int grl, .int grs, .int re, .int rb])), (ht, .inl (tc 0, 30, .inl (va_cpy gtold told (0 : Int32).toNatClampNeg (0 : Int32).toNatClampNeg (30 : Int32).toNatClampNeg))), (g0, .inr (3, [.ref gt, .int grt, .int grc, .int grl, .int grs, .int gre, .int grb])), (gt, .inl (tc 0, 30, .inl gtold))] H := hP
  have hD : va_D A [(h0, .inr (3, [.ref ht, .int grt, .int grc, .int grl, .int grs, .int re, .int rb])), (ht, .inl (tc 0, 30, .inl (va_cpy gtold told (0 : Int32).toNatClampNeg (0 : Int32).toNatClampNeg (30 : Int32).toNatClampNeg))), (g0, .inr (3, [.ref gt, .int grt, .int grc, .int grl, .int grs, .int gre, .int grb])), (gt, .inl (tc 0, 30, .inl gtold))] := hD
  refine lv_aload_n hx hb dX3_copyFrom_47 rfl (lv_at hl 0 rfl) ?_
  refine lv_aload_n hx hb dX3_copyFrom_48 rfl (lv_at hl 1 rfl) ?_
  refine va_get (D := D) (ci := 3) (v := .int gre) (C := RX3) (T := TX3) (N := 7) hx hb hts iX3_copyFrom_X3 hown hK hP 2 rfl rfl 5 (by decide) (hts (.fieldLink RX3 18 "FrameCard$Rounds" "ended" "I") (by decide +kernel)) (fun _ h9 => h9) rfl dX3_copyFrom_49 ?_
  refine va_put (D := D) (ci := 3) (v := .int gre) (ty := .int) (C := RX3) (T := TX3) (N := 7) hx hb hts iX3_copyFrom_X3 tyX3 tyX3_ok nmX3 hown hK hP hD hS 0 rfl rfl 5 (by decide) (hts (.fieldLink RX3 18 "FrameCard$Rounds" "ended" "I") (by decide +kernel)) (fun _ h9 => h9) rfl (by decide +kernel) rfl rfl (Nat.le_of_ble_eq_true rfl) dX3_copyFrom_52 (fun H locs hP hD hS => ?_)
  have hP : va_P D vwCl [(h0, .inr (3, [.ref ht, .int grt, .int grc, .int grl, .int grs, .int gre, .int rb])), (ht, .inl (tc 0, 30, .inl (va_cpy gtold told (0 : Int32).toNatClampNeg (0 : Int32).toNatClampNeg (30 : Int32).toNatClampNeg))), (g0, .inr (3, [.ref gt, .int grt, .int grc, .int grl, .int grs, .int gre, .int grb])), (gt, .inl (tc 0, 30, .inl gtold))] H := hP
  have hD : va_D A [(h0, .inr (3, [.ref ht, .int grt, .int grc, .int grl, .int grs, .int gre, .int rb])), (ht, .inl (tc 0, 30, .inl (va_cpy gtold told (0 : Int32).toNatClampNeg (0 : Int32).toNatClampNeg (30 : Int32).toNatClampNeg))), (g0, .inr (3, [.ref gt, .int grt, .int grc, .int grl, .int grs, .int gre, .int grb])), (gt, .inl (tc 0, 30, .inl gtold))] := hD
  refine lv_aload_n hx hb dX3_copyFrom_55 rfl (lv_at hl 0 rfl) ?_
  refine lv_aload_n hx hb dX3_copyFrom_56 rfl (lv_at hl 1 rfl) ?_
  refine va_get (D := D) (ci := 3) (v := .int grb) (C := RX3) (T := TX3) (N := 7) hx hb hts iX3_copyFrom_X3 hown hK hP 2 rfl rfl 6 (by decide) (hts (.fieldLink RX3 22 "FrameCard$Rounds" "broken" "I") (by decide +kernel)) (fun _ h9 => h9) rfl dX3_copyFrom_57 ?_
  refine va_put (D := D) (ci := 3) (v := .int grb) (ty := .int) (C := RX3) (T := TX3) (N := 7) hx hb hts iX3_copyFrom_X3 tyX3 tyX3_ok nmX3 hown hK hP hD hS 0 rfl rfl 6 (by decide) (hts (.fieldLink RX3 22 "FrameCard$Rounds" "broken" "I") (by decide +kernel)) (fun _ h9 => h9) rfl (by decide +kernel) rfl rfl (Nat.le_of_ble_eq_true rfl) dX3_copyFrom_60 (fun H locs hP hD hS => ?_)
  have hP : va_P D vwCl [(h0, .inr (3, [.ref ht, .int grt, .int grc, .int grl, .int grs, .int gre, .int grb])), (ht, .inl (tc 0, 30, .inl (va_cpy gtold told (0 : Int32).toNatClampNeg (0 : Int32).toNatClampNeg (30 : Int32).toNatClampNeg))), (g0, .inr (3, [.ref gt, .int grt, .int grc, .int grl, .int grs, .int gre, .int grb])), (gt, .inl (tc 0, 30, .inl gtold))] H := hP
  have hD : va_D A [(h0, .inr (3, [.ref ht, .int grt, .int grc, .int grl, .int grs, .int gre, .int grb])), (ht, .inl (tc 0, 30, .inl (va_cpy gtold told (0 : Int32).toNatClampNeg (0 : Int32).toNatClampNeg (30 : Int32).toNatClampNeg))), (g0, .inr (3, [.ref gt, .int grt, .int grc, .int grl, .int grs, .int gre, .int grb])), (gt, .inl (tc 0, 30, .inl gtold))] := hD
  exact hret _ _ (grt, grc, grl, grs, gre, grb, (va_cpy gtold told (0 : Int32).toNatClampNeg (0 : Int32).toNatClampNeg (30 : Int32).toNatClampNeg)) _ _ (by rw [mX3_copyFrom]; (first | done | rfl)) (hP.sub [0, 1, 2, 3] rfl) (hD.sub [0, 1, 2, 3] (by decide) rfl) hS dX3_copyFrom_63
