/-! The reference: a tick -/
--# X8_tick
theorem hd_X8_sweep : yX8_sweep.cls = RX8 ∧ yX8_sweep.cls ≠ "java/lang/invoke/MethodHandle" ∧ yX8_sweep.cls ≠ "java/lang/invoke/VarHandle" ∧ (parseMethodDescriptor yX8_sweep.desc).map (fun d => d.parameters.length) = some 1 := by decide +kernel
theorem hd_X8_sweepn : yX8_sweep.cls ≠ "java/lang/invoke/MethodHandle" ∧ yX8_sweep.cls ≠ "java/lang/invoke/VarHandle" ∧ (parseMethodDescriptor yX8_sweep.desc).map (fun d => d.parameters.length) = some 1 := by decide +kernel
theorem hd_X8_lacks : yX8_lacks.cls = RX8 ∧ yX8_lacks.cls ≠ "java/lang/invoke/MethodHandle" ∧ yX8_lacks.cls ≠ "java/lang/invoke/VarHandle" ∧ (parseMethodDescriptor yX8_lacks.desc).map (fun d => d.parameters.length) = some 1 := by decide +kernel
theorem hd_X8_lacksn : yX8_lacks.cls ≠ "java/lang/invoke/MethodHandle" ∧ yX8_lacks.cls ≠ "java/lang/invoke/VarHandle" ∧ (parseMethodDescriptor yX8_lacks.desc).map (fun d => d.parameters.length) = some 1 := by decide +kernel
theorem hd_X8_endRound : yX8_endRound.cls = RX8 ∧ yX8_endRound.cls ≠ "java/lang/invoke/MethodHandle" ∧ yX8_endRound.cls ≠ "java/lang/invoke/VarHandle" ∧ (parseMethodDescriptor yX8_endRound.desc).map (fun d => d.parameters.length) = some 1 := by decide +kernel
theorem hd_X8_endRoundn : yX8_endRound.cls ≠ "java/lang/invoke/MethodHandle" ∧ yX8_endRound.cls ≠ "java/lang/invoke/VarHandle" ∧ (parseMethodDescriptor yX8_endRound.desc).map (fun d => d.parameters.length) = some 1 := by decide +kernel
theorem hd_X8_leastOf : yX8_leastOf.cls = RX8 ∧ yX8_leastOf.cls ≠ "java/lang/invoke/MethodHandle" ∧ yX8_leastOf.cls ≠ "java/lang/invoke/VarHandle" ∧ (parseMethodDescriptor yX8_leastOf.desc).map (fun d => d.parameters.length) = some 1 := by decide +kernel
theorem hd_X8_leastOfn : yX8_leastOf.cls ≠ "java/lang/invoke/MethodHandle" ∧ yX8_leastOf.cls ≠ "java/lang/invoke/VarHandle" ∧ (parseMethodDescriptor yX8_leastOf.desc).map (fun d => d.parameters.length) = some 1 := by decide +kernel
theorem hd_X8_dropIn : yX8_dropIn.cls = RX8 ∧ yX8_dropIn.cls ≠ "java/lang/invoke/MethodHandle" ∧ yX8_dropIn.cls ≠ "java/lang/invoke/VarHandle" ∧ (parseMethodDescriptor yX8_dropIn.desc).map (fun d => d.parameters.length) = some 2 := by decide +kernel
theorem hd_X8_dropInn : yX8_dropIn.cls ≠ "java/lang/invoke/MethodHandle" ∧ yX8_dropIn.cls ≠ "java/lang/invoke/VarHandle" ∧ (parseMethodDescriptor yX8_dropIn.desc).map (fun d => d.parameters.length) = some 2 := by decide +kernel
theorem hd_X8_store : yX8_store.cls = RX8 ∧ yX8_store.cls ≠ "java/lang/invoke/MethodHandle" ∧ yX8_store.cls ≠ "java/lang/invoke/VarHandle" ∧ (parseMethodDescriptor yX8_store.desc).map (fun d => d.parameters.length) = some 1 := by decide +kernel
theorem hd_X8_storen : yX8_store.cls ≠ "java/lang/invoke/MethodHandle" ∧ yX8_store.cls ≠ "java/lang/invoke/VarHandle" ∧ (parseMethodDescriptor yX8_store.desc).map (fun d => d.parameters.length) = some 1 := by decide +kernel
noncomputable def mX8_tick_S45 (row : Nat → Int32) (rowh9 : Nat → Int32) (ih_45 : (Nat → Int32) → Int32 × (Nat → Int32)) (rowh45 : Nat → Int32) : Int32 × (Nat → Int32) :=
  let r_3 := mX8_lacks rowh45
  if r_3 = 0 then
    let row_5 := (upd rowh45 (4 : Int32).toNatClampNeg ((rowh45 (4 : Int32).toNatClampNeg) + 1))
    let row_6 := (upd row_5 (11 : Int32).toNatClampNeg ((row_5 (11 : Int32).toNatClampNeg) + 1))
    if (row_6 (11 : Int32).toNatClampNeg) < (row_6 (2 : Int32).toNatClampNeg) then
      (((rowh9 (16 : Int32).toNatClampNeg) - (row (16 : Int32).toNatClampNeg)), row_6)
    else
      let row_8 := mX8_endRound row_6
      (((rowh9 (16 : Int32).toNatClampNeg) - (row (16 : Int32).toNatClampNeg)), row_8)
  else
    if (rowh45 (16 : Int32).toNatClampNeg) ≤ 0 then
      let row_10 := (upd rowh45 (4 : Int32).toNatClampNeg ((rowh45 (4 : Int32).toNatClampNeg) + 1))
      let row_11 := (upd row_10 (11 : Int32).toNatClampNeg ((row_10 (11 : Int32).toNatClampNeg) + 1))
      if (row_11 (11 : Int32).toNatClampNeg) < (row_11 (2 : Int32).toNatClampNeg) then
        (((rowh9 (16 : Int32).toNatClampNeg) - (row (16 : Int32).toNatClampNeg)), row_11)
      else
        let row_13 := mX8_endRound row_11
        (((rowh9 (16 : Int32).toNatClampNeg) - (row (16 : Int32).toNatClampNeg)), row_13)
    else
      let r_14 := mX8_leastOf rowh45
      match mX8_dropIn rowh45 r_14 with
      | (r_15, row_15) =>
        ih_45 row_15
noncomputable def mX8_tick_L45 (row : Nat → Int32) (rowh9 : Nat → Int32) (k : Nat) : (Nat → Int32) → Int32 × (Nat → Int32) := Nat.rec (motive := fun _ => (Nat → Int32) → Int32 × (Nat → Int32)) (fun rowh45 => (0, rowh45)) (fun _ ih => mX8_tick_S45 row rowh9 ih) k
theorem mX8_tick_L45_z (row : Nat → Int32) (rowh9 : Nat → Int32) (rowh45 : Nat → Int32) : mX8_tick_L45 row rowh9 0 rowh45 = (0, rowh45) := rfl
theorem mX8_tick_L45_s (row : Nat → Int32) (rowh9 : Nat → Int32) (k : Nat) (rowh45 : Nat → Int32) : mX8_tick_L45 row rowh9 (k + 1) rowh45 = mX8_tick_S45 row rowh9 (mX8_tick_L45 row rowh9 k) rowh45 := rfl
noncomputable def mX8_tick_S9 (row : Nat → Int32) (ih_9 : (Nat → Int32) → Int32 × (Nat → Int32)) (rowh9 : Nat → Int32) : Int32 × (Nat → Int32) :=
  if (rowh9 (17 : Int32).toNatClampNeg) ≤ 0 then
    mX8_tick_L45 row rowh9 49 rowh9
  else
    let r_16 := mX8_count rowh9 (-1)
    let r_17 := mX8_waitAt 0 2
    if r_16 < (rowh9 r_17.toNatClampNeg) then
      mX8_tick_L45 row rowh9 49 rowh9
    else
      let row_32 := mX8_store rowh9
      ih_9 row_32
noncomputable def mX8_tick_L9 (row : Nat → Int32) (k : Nat) : (Nat → Int32) → Int32 × (Nat → Int32) := Nat.rec (motive := fun _ => (Nat → Int32) → Int32 × (Nat → Int32)) (fun rowh9 => (0, rowh9)) (fun _ ih => mX8_tick_S9 row ih) k
theorem mX8_tick_L9_z (row : Nat → Int32) (rowh9 : Nat → Int32) : mX8_tick_L9 row 0 rowh9 = (0, rowh9) := rfl
theorem mX8_tick_L9_s (row : Nat → Int32) (k : Nat) (rowh9 : Nat → Int32) : mX8_tick_L9 row (k + 1) rowh9 = mX8_tick_S9 row (mX8_tick_L9 row k) rowh9 := rfl
noncomputable def mX8_tick (row : Nat → Int32) : Int32 × (Nat → Int32) :=
  let row_1 := mX8_sweep row
  mX8_tick_L9 row 5 row_1
abbrev rmX8_tick : Room := { frames := 3, cells := 0, slots := 0, locals := 69 }
set_option maxHeartbeats 4000000 in
set_option maxRecDepth 100000 in
theorem c_X8_tick (l : Launch) (D : va_G) (tc : Nat → ClassId) (rw : Nat) (row : Nat → Int32) (sz : Nat) (hR : RXn 1 row) : Met l yX8_tick wsX8_tick rmX8_tick (va_Pc [.ref rw] (fcB D tc [(rw, .inl (tc 0, 357, .inl row))] sz)) (va_Qi (fun (r : Int32) (u : Nat → Int32) => mX8_tick row = (r, u)) (fun u t => fcO D (va_A [(rw, .inl (tc 0, 357, .inl row))] sz) ((fun (u : Nat → Int32) => [(rw, .inl (tc 0, 357, .inl u))]) u) t) (va_A [(rw, .inl (tc 0, 357, .inl row))] sz)) 0 0 (va_A [(rw, .inl (tc 0, 357, .inl row))] sz) := by
  refine fc_ofWi (own := RX8) (cc := cX8_tick) (maxL := 3) (W1 := (fun (u : Nat → Int32) => [(rw, .inl (tc 0, 357, .inl u))])) rfl (by decide) rfl (Nat.le_of_ble_eq_true rfl) ?_
  intro p e s m args below meth c A Q hx hb hml hown hts hK hE hP hD hS hA hin hret ls hl
  have hl : lv_has ls 3 [(0, .ref rw)] := hl
  refine lv_aload_n hx hb dX8_tick_0 rfl (lv_at hl 0 rfl) ?_
  refine lv_bipush (v := 16) hx hb dX8_tick_1 (by decide) ?_
  refine va_iald (D := D) hx hb hK hP 0 0 rfl rfl (vp_in_iff.mpr (by decide)) dX8_tick_3 ?_
  refine lv_istore_n (lv' := [(1, .int (row (16 : Int32).toNatClampNeg)), (0, .ref rw)]) hx hb dX8_tick_4 rfl hl (by decide) rfl (fun ls hl => ?_)
  refine lv_aload_n hx hb dX8_tick_5 rfl (lv_at hl 1 rfl) ?_
  refine fc_gov (isC := [0]) (isR := []) (wc := [(rw, .inl (tc 0, 357, .inl row))]) (wr := []) hP hD hS hA rfl rfl (by decide) (by decide) (fc_runS (isC := [0]) (As := [.ref rw]) (rest := []) hx hb hml hown hts hK hE hP hD hS hA rfl (by decide) (c_X8_sweep l D tc rw row _ (RX_K hR).1) (cwS 1 hts gX8_tick_X8_sweep rfl rfl rfl hd_X8_sweep ⟨Nat.le_of_ble_eq_true rfl, Nat.le_of_ble_eq_true rfl⟩) rfl hl.1 rfl (Nat.le_of_ble_eq_true rfl) dX8_tick_6 ⟨Nat.le_of_ble_eq_true rfl, Nat.le_of_ble_eq_true rfl⟩) (fun u_1 H locs hw_1 hP hD hS => ?_)
  obtain ⟨row_1, rfl⟩ : ∃ z, z = u_1 := ⟨_, rfl⟩
  try dsimp only at hw_1
  have hP : va_P D vwCl [(rw, .inl (tc 0, 357, .inl row_1))] H := hP
  have hD : va_D A [(rw, .inl (tc 0, 357, .inl row_1))] := hD
  have hs_1 := (show RXn 1 row_1 from hw_1 ▸ RX_sweep hR)
  have loop_9 : ∀ (k_9 : Nat) (rowh9 : Nat → Int32) (hx_9 : RXn 1 rowh9) (hm_9 : 0 ≤ (rowh9 (17 : Int32).toNatClampNeg).toInt ∧ (rowh9 (17 : Int32).toNatClampNeg).toInt < k_9) (hI_9 : mX8_tick row = mX8_tick_L9 row k_9 rowh9) (H : Heap) (locs : List Loc), va_P D vwCl [(rw, .inl (tc 0, 357, .inl rowh9))] H → va_D A [(rw, .inl (tc 0, 357, .inl rowh9))] → va_S A s.heap H locs → ∀ ls : Array Slot, lv_has ls 3 [(1, .int (row (16 : Int32).toNatClampNeg)), (0, .ref rw)] → W p l e rmX8_tick s m args below meth c H locs 0 0 Q (F0 m 9 ls []) := by
    intro k_9
    induction k_9 with
    | zero =>
      intro rowh9 hx_9 hm_9 hI_9 H locs hP hD hS ls hl
      exact absurd hm_9 (by omega)
    | succ k_9 ih_9 =>
      intro rowh9 hx_9 hm_9 hI_9 H locs hP hD hS ls hl
      refine lv_aload_n hx hb dX8_tick_9 rfl (lv_at hl 1 rfl) ?_
      refine lv_bipush (v := 17) hx hb dX8_tick_10 (by decide) ?_
      refine va_iald (D := D) hx hb hK hP 0 0 rfl rfl (vp_in_iff.mpr (by decide)) dX8_tick_12 ?_
      refine lv_if_le (tgt := 38) hx hb dX8_tick_13 (by decide) (fun c_2 => ?_) (fun c_2 => ?_)
      · refine lv_aload_n hx hb dX8_tick_38 rfl (lv_at hl 1 rfl) ?_
        refine lv_bipush (v := 16) hx hb dX8_tick_39 (by decide) ?_
        refine va_iald (D := D) hx hb hK hP 0 0 rfl rfl (vp_in_iff.mpr (by decide)) dX8_tick_41 ?_
        refine lv_iload_n hx hb dX8_tick_42 rfl (lv_at hl 0 rfl) ?_
        refine lv_isub hx hb dX8_tick_43 ?_
        refine lv_istore_n (lv' := [(2, .int ((rowh9 (16 : Int32).toNatClampNeg) - (row (16 : Int32).toNatClampNeg))), (1, .int (row (16 : Int32).toNatClampNeg)), (0, .ref rw)]) hx hb dX8_tick_44 rfl hl (by decide) rfl (fun ls hl => ?_)
        have loop_45 : ∀ (k_45 : Nat) (rowh45 : Nat → Int32) (hx_45 : RXn 1 rowh45) (hm_45 : 0 ≤ (rowh45 (16 : Int32).toNatClampNeg).toInt ∧ (rowh45 (16 : Int32).toNatClampNeg).toInt < k_45) (hI_45 : mX8_tick row = mX8_tick_L45 row rowh9 k_45 rowh45) (H : Heap) (locs : List Loc), va_P D vwCl [(rw, .inl (tc 0, 357, .inl rowh45))] H → va_D A [(rw, .inl (tc 0, 357, .inl rowh45))] → va_S A s.heap H locs → ∀ ls : Array Slot, lv_has ls 3 [(2, .int ((rowh9 (16 : Int32).toNatClampNeg) - (row (16 : Int32).toNatClampNeg))), (1, .int (row (16 : Int32).toNatClampNeg)), (0, .ref rw)] → W p l e rmX8_tick s m args below meth c H locs 0 0 Q (F0 m 45 ls []) := by
          intro k_45
          induction k_45 with
          | zero =>
            intro rowh45 hx_45 hm_45 hI_45 H locs hP hD hS ls hl
            exact absurd hm_45 (by omega)
          | succ k_45 ih_45 =>
            intro rowh45 hx_45 hm_45 hI_45 H locs hP hD hS ls hl
            refine lv_aload_n hx hb dX8_tick_45 rfl (lv_at hl 2 rfl) ?_
            refine fc_goi (isC := [0]) (isR := []) (wc := [(rw, .inl (tc 0, 357, .inl rowh45))]) (wr := []) hP hD hS hA rfl rfl (by decide) (by decide) (fc_runS (isC := [0]) (As := [.ref rw]) (rest := []) hx hb hml hown hts hK hE hP hD hS hA rfl (by decide) (c_X8_lacks l D tc rw rowh45 _ (RX_K hx_45).1) (cwS 1 hts gX8_tick_X8_lacks rfl rfl rfl hd_X8_lacks ⟨Nat.le_of_ble_eq_true rfl, Nat.le_of_ble_eq_true rfl⟩) rfl hl.1 rfl (Nat.le_of_ble_eq_true rfl) dX8_tick_46 ⟨Nat.le_of_ble_eq_true rfl, Nat.le_of_ble_eq_true rfl⟩) (fun r_3 u_3 H locs hw_3 hP hD hS => ?_)
            try dsimp only at hw_3
            have hP : va_P D vwCl [(rw, .inl (tc 0, 357, .inl rowh45))] H := hP
            have hD : va_D A [(rw, .inl (tc 0, 357, .inl rowh45))] := hD
            refine lv_if_eq (tgt := 71) hx hb dX8_tick_49 (by decide) (fun c_4 => ?_) (fun c_4 => ?_)
            · refine lv_aload_n hx hb dX8_tick_71 rfl (lv_at hl 2 rfl) ?_
              refine lv_iconst (v := 4) hx hb dX8_tick_72 (by decide) ?_
              refine lv_dup2_11 hx hb dX8_tick_73 rfl rfl ?_
              refine va_iald (D := D) hx hb hK hP 0 0 rfl rfl (vp_in_iff.mpr (by decide)) dX8_tick_74 ?_
              refine lv_iconst (v := 1) hx hb dX8_tick_75 (by decide) ?_
              refine lv_iadd hx hb dX8_tick_76 ?_
              refine va_iast (D := D) hx hb hK hP hD hS 0 0 rfl rfl (vp_in_iff.mpr (by decide)) dX8_tick_77 (fun H locs hP hD hS => ?_)
              have hP : va_P D vwCl [(rw, .inl (tc 0, 357, .inl (upd rowh45 (4 : Int32).toNatClampNeg ((rowh45 (4 : Int32).toNatClampNeg) + 1))))] H := hP
              have hD : va_D A [(rw, .inl (tc 0, 357, .inl (upd rowh45 (4 : Int32).toNatClampNeg ((rowh45 (4 : Int32).toNatClampNeg) + 1))))] := hD
              obtain ⟨row_5, hw_5⟩ : ∃ z, (upd rowh45 (4 : Int32).toNatClampNeg ((rowh45 (4 : Int32).toNatClampNeg) + 1)) = z := ⟨_, rfl⟩
              rw [hw_5] at hP hD
              refine lv_aload_n hx hb dX8_tick_78 rfl (lv_at hl 2 rfl) ?_
              refine lv_bipush (v := 11) hx hb dX8_tick_79 (by decide) ?_
              refine lv_dup2_11 hx hb dX8_tick_81 rfl rfl ?_
              refine va_iald (D := D) hx hb hK hP 0 0 rfl rfl (vp_in_iff.mpr (by decide)) dX8_tick_82 ?_
              refine lv_iconst (v := 1) hx hb dX8_tick_83 (by decide) ?_
              refine lv_iadd hx hb dX8_tick_84 ?_
              refine va_iast (D := D) hx hb hK hP hD hS 0 0 rfl rfl (vp_in_iff.mpr (by decide)) dX8_tick_85 (fun H locs hP hD hS => ?_)
              have hP : va_P D vwCl [(rw, .inl (tc 0, 357, .inl (upd row_5 (11 : Int32).toNatClampNeg ((row_5 (11 : Int32).toNatClampNeg) + 1))))] H := hP
              have hD : va_D A [(rw, .inl (tc 0, 357, .inl (upd row_5 (11 : Int32).toNatClampNeg ((row_5 (11 : Int32).toNatClampNeg) + 1))))] := hD
              obtain ⟨row_6, hw_6⟩ : ∃ z, (upd row_5 (11 : Int32).toNatClampNeg ((row_5 (11 : Int32).toNatClampNeg) + 1)) = z := ⟨_, rfl⟩
              rw [hw_6] at hP hD
              refine lv_aload_n hx hb dX8_tick_86 rfl (lv_at hl 2 rfl) ?_
              refine lv_bipush (v := 11) hx hb dX8_tick_87 (by decide) ?_
              refine va_iald (D := D) hx hb hK hP 0 0 rfl rfl (vp_in_iff.mpr (by decide)) dX8_tick_89 ?_
              refine lv_aload_n hx hb dX8_tick_90 rfl (lv_at hl 2 rfl) ?_
              refine lv_iconst (v := 2) hx hb dX8_tick_91 (by decide) ?_
              refine va_iald (D := D) hx hb hK hP 0 0 rfl rfl (vp_in_iff.mpr (by decide)) dX8_tick_92 ?_
              refine lv_icmp_lt (tgt := 100) hx hb dX8_tick_93 (by decide) (fun c_7 => ?_) (fun c_7 => ?_)
              · refine lv_iload_n hx hb dX8_tick_100 rfl (lv_at hl 0 rfl) ?_
                exact hret _ _ ((rowh9 (16 : Int32).toNatClampNeg) - (row (16 : Int32).toNatClampNeg)) row_6 _ _ (by rw [hI_45, mX8_tick_L45_s, mX8_tick_S45]; (try dsimp only); rw [hw_3]; (try dsimp only); rw [if_pos c_4]; rw [hw_5]; (try dsimp only); rw [hw_6]; (try dsimp only); rw [if_pos c_7]; (first | done | rfl)) (hP.sub [0] rfl) (hD.sub [0] (by decide) rfl) hS dX8_tick_101
              · refine lv_aload_n hx hb dX8_tick_96 rfl (lv_at hl 2 rfl) ?_
                refine fc_gov (isC := [0]) (isR := []) (wc := [(rw, .inl (tc 0, 357, .inl row_6))]) (wr := []) hP hD hS hA rfl rfl (by decide) (by decide) (fc_runS (isC := [0]) (As := [.ref rw]) (rest := []) hx hb hml hown hts hK hE hP hD hS hA rfl (by decide) (c_X8_endRound l D tc rw row_6 _ ) (cwS 1 hts gX8_tick_X8_endRound rfl rfl rfl hd_X8_endRound ⟨Nat.le_of_ble_eq_true rfl, Nat.le_of_ble_eq_true rfl⟩) rfl hl.1 rfl (Nat.le_of_ble_eq_true rfl) dX8_tick_97 ⟨Nat.le_of_ble_eq_true rfl, Nat.le_of_ble_eq_true rfl⟩) (fun u_8 H locs hw_8 hP hD hS => ?_)
                obtain ⟨row_8, rfl⟩ : ∃ z, z = u_8 := ⟨_, rfl⟩
                try dsimp only at hw_8
                have hP : va_P D vwCl [(rw, .inl (tc 0, 357, .inl row_8))] H := hP
                have hD : va_D A [(rw, .inl (tc 0, 357, .inl row_8))] := hD
                refine lv_iload_n hx hb dX8_tick_100 rfl (lv_at hl 0 rfl) ?_
                exact hret _ _ ((rowh9 (16 : Int32).toNatClampNeg) - (row (16 : Int32).toNatClampNeg)) row_8 _ _ (by rw [hI_45, mX8_tick_L45_s, mX8_tick_S45]; (try dsimp only); rw [hw_3]; (try dsimp only); rw [if_pos c_4]; rw [hw_5]; (try dsimp only); rw [hw_6]; (try dsimp only); rw [if_neg c_7]; rw [hw_8]; (try dsimp only); (first | done | rfl)) (hP.sub [0] rfl) (hD.sub [0] (by decide) rfl) hS dX8_tick_101
            · refine lv_aload_n hx hb dX8_tick_52 rfl (lv_at hl 2 rfl) ?_
              refine lv_bipush (v := 16) hx hb dX8_tick_53 (by decide) ?_
              refine va_iald (D := D) hx hb hK hP 0 0 rfl rfl (vp_in_iff.mpr (by decide)) dX8_tick_55 ?_
              refine lv_if_le (tgt := 71) hx hb dX8_tick_56 (by decide) (fun c_9 => ?_) (fun c_9 => ?_)
              · refine lv_aload_n hx hb dX8_tick_71 rfl (lv_at hl 2 rfl) ?_
                refine lv_iconst (v := 4) hx hb dX8_tick_72 (by decide) ?_
                refine lv_dup2_11 hx hb dX8_tick_73 rfl rfl ?_
                refine va_iald (D := D) hx hb hK hP 0 0 rfl rfl (vp_in_iff.mpr (by decide)) dX8_tick_74 ?_
                refine lv_iconst (v := 1) hx hb dX8_tick_75 (by decide) ?_
                refine lv_iadd hx hb dX8_tick_76 ?_
                refine va_iast (D := D) hx hb hK hP hD hS 0 0 rfl rfl (vp_in_iff.mpr (by decide)) dX8_tick_77 (fun H locs hP hD hS => ?_)
                have hP : va_P D vwCl [(rw, .inl (tc 0, 357, .inl (upd rowh45 (4 : Int32).toNatClampNeg ((rowh45 (4 : Int32).toNatClampNeg) + 1))))] H := hP
                have hD : va_D A [(rw, .inl (tc 0, 357, .inl (upd rowh45 (4 : Int32).toNatClampNeg ((rowh45 (4 : Int32).toNatClampNeg) + 1))))] := hD
                obtain ⟨row_10, hw_10⟩ : ∃ z, (upd rowh45 (4 : Int32).toNatClampNeg ((rowh45 (4 : Int32).toNatClampNeg) + 1)) = z := ⟨_, rfl⟩
                rw [hw_10] at hP hD
                refine lv_aload_n hx hb dX8_tick_78 rfl (lv_at hl 2 rfl) ?_
                refine lv_bipush (v := 11) hx hb dX8_tick_79 (by decide) ?_
                refine lv_dup2_11 hx hb dX8_tick_81 rfl rfl ?_
                refine va_iald (D := D) hx hb hK hP 0 0 rfl rfl (vp_in_iff.mpr (by decide)) dX8_tick_82 ?_
                refine lv_iconst (v := 1) hx hb dX8_tick_83 (by decide) ?_
                refine lv_iadd hx hb dX8_tick_84 ?_
                refine va_iast (D := D) hx hb hK hP hD hS 0 0 rfl rfl (vp_in_iff.mpr (by decide)) dX8_tick_85 (fun H locs hP hD hS => ?_)
                have hP : va_P D vwCl [(rw, .inl (tc 0, 357, .inl (upd row_10 (11 : Int32).toNatClampNeg ((row_10 (11 : Int32).toNatClampNeg) + 1))))] H := hP
                have hD : va_D A [(rw, .inl (tc 0, 357, .inl (upd row_10 (11 : Int32).toNatClampNeg ((row_10 (11 : Int32).toNatClampNeg) + 1))))] := hD
                obtain ⟨row_11, hw_11⟩ : ∃ z, (upd row_10 (11 : Int32).toNatClampNeg ((row_10 (11 : Int32).toNatClampNeg) + 1)) = z := ⟨_, rfl⟩
                rw [hw_11] at hP hD
                refine lv_aload_n hx hb dX8_tick_86 rfl (lv_at hl 2 rfl) ?_
                refine lv_bipush (v := 11) hx hb dX8_tick_87 (by decide) ?_
                refine va_iald (D := D) hx hb hK hP 0 0 rfl rfl (vp_in_iff.mpr (by decide)) dX8_tick_89 ?_
                refine lv_aload_n hx hb dX8_tick_90 rfl (lv_at hl 2 rfl) ?_
                refine lv_iconst (v := 2) hx hb dX8_tick_91 (by decide) ?_
                refine va_iald (D := D) hx hb hK hP 0 0 rfl rfl (vp_in_iff.mpr (by decide)) dX8_tick_92 ?_
                refine lv_icmp_lt (tgt := 100) hx hb dX8_tick_93 (by decide) (fun c_12 => ?_) (fun c_12 => ?_)
                · refine lv_iload_n hx hb dX8_tick_100 rfl (lv_at hl 0 rfl) ?_
                  exact hret _ _ ((rowh9 (16 : Int32).toNatClampNeg) - (row (16 : Int32).toNatClampNeg)) row_11 _ _ (by rw [hI_45, mX8_tick_L45_s, mX8_tick_S45]; (try dsimp only); rw [hw_3]; (try dsimp only); rw [if_neg c_4]; rw [if_pos c_9]; rw [hw_10]; (try dsimp only); rw [hw_11]; (try dsimp only); rw [if_pos c_12]; (first | done | rfl)) (hP.sub [0] rfl) (hD.sub [0] (by decide) rfl) hS dX8_tick_101
                · refine lv_aload_n hx hb dX8_tick_96 rfl (lv_at hl 2 rfl) ?_
                  refine fc_gov (isC := [0]) (isR := []) (wc := [(rw, .inl (tc 0, 357, .inl row_11))]) (wr := []) hP hD hS hA rfl rfl (by decide) (by decide) (fc_runS (isC := [0]) (As := [.ref rw]) (rest := []) hx hb hml hown hts hK hE hP hD hS hA rfl (by decide) (c_X8_endRound l D tc rw row_11 _ ) (cwS 1 hts gX8_tick_X8_endRound rfl rfl rfl hd_X8_endRound ⟨Nat.le_of_ble_eq_true rfl, Nat.le_of_ble_eq_true rfl⟩) rfl hl.1 rfl (Nat.le_of_ble_eq_true rfl) dX8_tick_97 ⟨Nat.le_of_ble_eq_true rfl, Nat.le_of_ble_eq_true rfl⟩) (fun u_13 H locs hw_13 hP hD hS => ?_)
                  obtain ⟨row_13, rfl⟩ : ∃ z, z = u_13 := ⟨_, rfl⟩
                  try dsimp only at hw_13
                  have hP : va_P D vwCl [(rw, .inl (tc 0, 357, .inl row_13))] H := hP
                  have hD : va_D A [(rw, .inl (tc 0, 357, .inl row_13))] := hD
                  refine lv_iload_n hx hb dX8_tick_100 rfl (lv_at hl 0 rfl) ?_
                  exact hret _ _ ((rowh9 (16 : Int32).toNatClampNeg) - (row (16 : Int32).toNatClampNeg)) row_13 _ _ (by rw [hI_45, mX8_tick_L45_s, mX8_tick_S45]; (try dsimp only); rw [hw_3]; (try dsimp only); rw [if_neg c_4]; rw [if_pos c_9]; rw [hw_10]; (try dsimp only); rw [hw_11]; (try dsimp only); rw [if_neg c_12]; rw [hw_13]; (try dsimp only); (first | done | rfl)) (hP.sub [0] rfl) (hD.sub [0] (by decide) rfl) hS dX8_tick_101
              · refine lv_aload_n hx hb dX8_tick_59 rfl (lv_at hl 2 rfl) ?_
                refine lv_aload_n hx hb dX8_tick_60 rfl (lv_at hl 2 rfl) ?_
                refine fc_goi (isC := [0]) (isR := []) (wc := [(rw, .inl (tc 0, 357, .inl rowh45))]) (wr := []) hP hD hS hA rfl rfl (by decide) (by decide) (fc_runS (isC := [0]) (As := [.ref rw]) (rest := [.ref rw]) hx hb hml hown hts hK hE hP hD hS hA rfl (by decide) (c_X8_leastOf l D tc rw rowh45 _ (RX_K hx_45).2.1.2) (cwS 1 hts gX8_tick_X8_leastOf rfl rfl rfl hd_X8_leastOf ⟨Nat.le_of_ble_eq_true rfl, Nat.le_of_ble_eq_true rfl⟩) rfl hl.1 rfl (Nat.le_of_ble_eq_true rfl) dX8_tick_61 ⟨Nat.le_of_ble_eq_true rfl, Nat.le_of_ble_eq_true rfl⟩) (fun r_14 u_14 H locs hw_14 hP hD hS => ?_)
                try dsimp only at hw_14
                have hP : va_P D vwCl [(rw, .inl (tc 0, 357, .inl rowh45))] H := hP
                have hD : va_D A [(rw, .inl (tc 0, 357, .inl rowh45))] := hD
                have hL := RX_least hx_45 (by assumption) hw_14
                have hLw := hw_14
                refine fc_goi (isC := [0]) (isR := []) (wc := [(rw, .inl (tc 0, 357, .inl rowh45))]) (wr := []) hP hD hS hA rfl rfl (by decide) (by decide) (fc_runS (isC := [0]) (As := [.ref rw, .int r_14]) (rest := []) hx hb hml hown hts hK hE hP hD hS hA rfl (by decide) (c_X8_dropIn l D tc rw rowh45 r_14 _ (RX_K hx_45).1 (RX_K hx_45).2.1.2 hL) (cwS 2 hts gX8_tick_X8_dropIn rfl rfl rfl hd_X8_dropIn ⟨Nat.le_of_ble_eq_true rfl, Nat.le_of_ble_eq_true rfl⟩) rfl hl.1 rfl (Nat.le_of_ble_eq_true rfl) dX8_tick_64 ⟨Nat.le_of_ble_eq_true rfl, Nat.le_of_ble_eq_true rfl⟩) (fun r_15 u_15 H locs hw_15 hP hD hS => ?_)
                obtain ⟨row_15, rfl⟩ : ∃ z, z = u_15 := ⟨_, rfl⟩
                try dsimp only at hw_15
                have hP : va_P D vwCl [(rw, .inl (tc 0, 357, .inl row_15))] H := hP
                have hD : va_D A [(rw, .inl (tc 0, 357, .inl row_15))] := hD
                have HD := RX_drop hx_45 (by assumption) hLw hw_15
                refine lv_pop hx hb dX8_tick_67 rfl ?_
                refine lv_goto (tgt := 45) hx hb dX8_tick_68 (by decide) ?_
                exact ih_45 row_15 (HD).2.1 (by have q := RX_K (HD).2.1; have q2 := (HD).2.2; omega) (by rw [hI_45, mX8_tick_L45_s, mX8_tick_S45]; (try dsimp only); rw [hw_3]; (try dsimp only); rw [if_neg c_4]; rw [if_neg c_9]; rw [hw_14]; (try dsimp only); rw [hw_15]; (try dsimp only); (first | done | rfl)) _ _ (hP.sub [0] rfl) (hD.sub [0] (by decide) rfl) hS ls (lv_sub hl [0, 1, 2] rfl)
        exact loop_45 49 rowh9 hx_9 (by have q := RX_K hx_9; omega) (by rw [hI_9, mX8_tick_L9_s, mX8_tick_S9]; (try dsimp only); rw [if_pos c_2]; (first | done | rfl)) _ _ (hP.sub [0] rfl) (hD.sub [0] (by decide) rfl) hS ls (lv_sub hl [0, 1, 2] rfl)
      · refine lv_aload_n hx hb dX8_tick_16 rfl (lv_at hl 1 rfl) ?_
        refine lv_iconst (v := (-1)) hx hb dX8_tick_17 (by decide) ?_
        refine fc_goi (isC := [0]) (isR := []) (wc := [(rw, .inl (tc 0, 357, .inl rowh9))]) (wr := []) hP hD hS hA rfl rfl (by decide) (by decide) (fc_runS (isC := [0]) (As := [.ref rw, .int (-1)]) (rest := []) hx hb hml hown hts hK hE hP hD hS hA rfl (by decide) (c_X8_count l D tc rw rowh9 (-1) _ (RX_K hx_9).1) (cwS 2 hts gX8_tick_X8_count rfl rfl rfl hd_X8_count ⟨Nat.le_of_ble_eq_true rfl, Nat.le_of_ble_eq_true rfl⟩) rfl hl.1 rfl (Nat.le_of_ble_eq_true rfl) dX8_tick_18 ⟨Nat.le_of_ble_eq_true rfl, Nat.le_of_ble_eq_true rfl⟩) (fun r_16 u_16 H locs hw_16 hP hD hS => ?_)
        try dsimp only at hw_16
        have hP : va_P D vwCl [(rw, .inl (tc 0, 357, .inl rowh9))] H := hP
        have hD : va_D A [(rw, .inl (tc 0, 357, .inl rowh9))] := hD
        have hCw := hw_16
        refine lv_aload_n hx hb dX8_tick_21 rfl (lv_at hl 1 rfl) ?_
        refine lv_iconst (v := 0) hx hb dX8_tick_22 (by decide) ?_
        refine lv_iconst (v := 2) hx hb dX8_tick_23 (by decide) ?_
        refine fc_goi (isC := []) (isR := [0]) (wc := []) (wr := [(rw, .inl (tc 0, 357, .inl rowh9))]) hP hD hS hA rfl rfl (by decide) (by decide) (fc_runS (isC := []) (As := [.int 0, .int 2]) (rest := [.ref rw, .int r_16]) hx hb hml hown hts hK hE hP hD hS hA rfl (by decide) (c_X8_waitAt l D tc 0 2 _ ) (cwS 2 hts gX8_tick_X8_waitAt rfl rfl rfl hd_X8_waitAt ⟨Nat.le_of_ble_eq_true rfl, Nat.le_of_ble_eq_true rfl⟩) rfl hl.1 rfl (Nat.le_of_ble_eq_true rfl) dX8_tick_24 ⟨Nat.le_of_ble_eq_true rfl, Nat.le_of_ble_eq_true rfl⟩) (fun r_17 u_17 H locs hw_17 hP hD hS => ?_)
        try dsimp only at hw_17
        have hP : va_P D vwCl [(rw, .inl (tc 0, 357, .inl rowh9))] H := hP
        have hD : va_D A [(rw, .inl (tc 0, 357, .inl rowh9))] := hD
        have hf_17 := fx_waitAt hw_17 (by decide) (by decide)
        have hWw := hw_17
        refine va_iald (D := D) hx hb hK hP 0 0 rfl rfl (by have l_0 : (0 : Int32).toInt = 0 := (by decide); have l_1 : (1 : Int32).toInt = 1 := (by decide); have l_17 : (17 : Int32).toInt = 17 := (by decide); have l_2 : (2 : Int32).toInt = 2 := (by decide); have l_3 : (3 : Int32).toInt = 3 := (by decide); have l_4 : (4 : Int32).toInt = 4 := (by decide); have qc_2 := c_2; (try simp only [fc_le, fc_lt, fc_eq] at qc_2); rw [vp_in_iff]; omega) dX8_tick_27 ?_
        refine lv_icmp_lt (tgt := 38) hx hb dX8_tick_28 (by decide) (fun c_18 => ?_) (fun c_18 => ?_)
        · refine lv_aload_n hx hb dX8_tick_38 rfl (lv_at hl 1 rfl) ?_
          refine lv_bipush (v := 16) hx hb dX8_tick_39 (by decide) ?_
          refine va_iald (D := D) hx hb hK hP 0 0 rfl rfl (vp_in_iff.mpr (by decide)) dX8_tick_41 ?_
          refine lv_iload_n hx hb dX8_tick_42 rfl (lv_at hl 0 rfl) ?_
          refine lv_isub hx hb dX8_tick_43 ?_
          refine lv_istore_n (lv' := [(2, .int ((rowh9 (16 : Int32).toNatClampNeg) - (row (16 : Int32).toNatClampNeg))), (1, .int (row (16 : Int32).toNatClampNeg)), (0, .ref rw)]) hx hb dX8_tick_44 rfl hl (by decide) rfl (fun ls hl => ?_)
          have loop_45 : ∀ (k_45 : Nat) (rowh45 : Nat → Int32) (hx_45 : RXn 1 rowh45) (hm_45 : 0 ≤ (rowh45 (16 : Int32).toNatClampNeg).toInt ∧ (rowh45 (16 : Int32).toNatClampNeg).toInt < k_45) (hI_45 : mX8_tick row = mX8_tick_L45 row rowh9 k_45 rowh45) (H : Heap) (locs : List Loc), va_P D vwCl [(rw, .inl (tc 0, 357, .inl rowh45))] H → va_D A [(rw, .inl (tc 0, 357, .inl rowh45))] → va_S A s.heap H locs → ∀ ls : Array Slot, lv_has ls 3 [(2, .int ((rowh9 (16 : Int32).toNatClampNeg) - (row (16 : Int32).toNatClampNeg))), (1, .int (row (16 : Int32).toNatClampNeg)), (0, .ref rw)] → W p l e rmX8_tick s m args below meth c H locs 0 0 Q (F0 m 45 ls []) := by
            intro k_45
            induction k_45 with
            | zero =>
              intro rowh45 hx_45 hm_45 hI_45 H locs hP hD hS ls hl
              exact absurd hm_45 (by omega)
            | succ k_45 ih_45 =>
              intro rowh45 hx_45 hm_45 hI_45 H locs hP hD hS ls hl
              refine lv_aload_n hx hb dX8_tick_45 rfl (lv_at hl 2 rfl) ?_
              refine fc_goi (isC := [0]) (isR := []) (wc := [(rw, .inl (tc 0, 357, .inl rowh45))]) (wr := []) hP hD hS hA rfl rfl (by decide) (by decide) (fc_runS (isC := [0]) (As := [.ref rw]) (rest := []) hx hb hml hown hts hK hE hP hD hS hA rfl (by decide) (c_X8_lacks l D tc rw rowh45 _ (RX_K hx_45).1) (cwS 1 hts gX8_tick_X8_lacks rfl rfl rfl hd_X8_lacks ⟨Nat.le_of_ble_eq_true rfl, Nat.le_of_ble_eq_true rfl⟩) rfl hl.1 rfl (Nat.le_of_ble_eq_true rfl) dX8_tick_46 ⟨Nat.le_of_ble_eq_true rfl, Nat.le_of_ble_eq_true rfl⟩) (fun r_19 u_19 H locs hw_19 hP hD hS => ?_)
              try dsimp only at hw_19
              have hP : va_P D vwCl [(rw, .inl (tc 0, 357, .inl rowh45))] H := hP
              have hD : va_D A [(rw, .inl (tc 0, 357, .inl rowh45))] := hD
              refine lv_if_eq (tgt := 71) hx hb dX8_tick_49 (by decide) (fun c_20 => ?_) (fun c_20 => ?_)
              · refine lv_aload_n hx hb dX8_tick_71 rfl (lv_at hl 2 rfl) ?_
                refine lv_iconst (v := 4) hx hb dX8_tick_72 (by decide) ?_
                refine lv_dup2_11 hx hb dX8_tick_73 rfl rfl ?_
                refine va_iald (D := D) hx hb hK hP 0 0 rfl rfl (vp_in_iff.mpr (by decide)) dX8_tick_74 ?_
                refine lv_iconst (v := 1) hx hb dX8_tick_75 (by decide) ?_
                refine lv_iadd hx hb dX8_tick_76 ?_
                refine va_iast (D := D) hx hb hK hP hD hS 0 0 rfl rfl (vp_in_iff.mpr (by decide)) dX8_tick_77 (fun H locs hP hD hS => ?_)
                have hP : va_P D vwCl [(rw, .inl (tc 0, 357, .inl (upd rowh45 (4 : Int32).toNatClampNeg ((rowh45 (4 : Int32).toNatClampNeg) + 1))))] H := hP
                have hD : va_D A [(rw, .inl (tc 0, 357, .inl (upd rowh45 (4 : Int32).toNatClampNeg ((rowh45 (4 : Int32).toNatClampNeg) + 1))))] := hD
                obtain ⟨row_21, hw_21⟩ : ∃ z, (upd rowh45 (4 : Int32).toNatClampNeg ((rowh45 (4 : Int32).toNatClampNeg) + 1)) = z := ⟨_, rfl⟩
                rw [hw_21] at hP hD
                refine lv_aload_n hx hb dX8_tick_78 rfl (lv_at hl 2 rfl) ?_
                refine lv_bipush (v := 11) hx hb dX8_tick_79 (by decide) ?_
                refine lv_dup2_11 hx hb dX8_tick_81 rfl rfl ?_
                refine va_iald (D := D) hx hb hK hP 0 0 rfl rfl (vp_in_iff.mpr (by decide)) dX8_tick_82 ?_
                refine lv_iconst (v := 1) hx hb dX8_tick_83 (by decide) ?_
                refine lv_iadd hx hb dX8_tick_84 ?_
                refine va_iast (D := D) hx hb hK hP hD hS 0 0 rfl rfl (vp_in_iff.mpr (by decide)) dX8_tick_85 (fun H locs hP hD hS => ?_)
                have hP : va_P D vwCl [(rw, .inl (tc 0, 357, .inl (upd row_21 (11 : Int32).toNatClampNeg ((row_21 (11 : Int32).toNatClampNeg) + 1))))] H := hP
                have hD : va_D A [(rw, .inl (tc 0, 357, .inl (upd row_21 (11 : Int32).toNatClampNeg ((row_21 (11 : Int32).toNatClampNeg) + 1))))] := hD
                obtain ⟨row_22, hw_22⟩ : ∃ z, (upd row_21 (11 : Int32).toNatClampNeg ((row_21 (11 : Int32).toNatClampNeg) + 1)) = z := ⟨_, rfl⟩
                rw [hw_22] at hP hD
                refine lv_aload_n hx hb dX8_tick_86 rfl (lv_at hl 2 rfl) ?_
                refine lv_bipush (v := 11) hx hb dX8_tick_87 (by decide) ?_
                refine va_iald (D := D) hx hb hK hP 0 0 rfl rfl (vp_in_iff.mpr (by decide)) dX8_tick_89 ?_
                refine lv_aload_n hx hb dX8_tick_90 rfl (lv_at hl 2 rfl) ?_
                refine lv_iconst (v := 2) hx hb dX8_tick_91 (by decide) ?_
                refine va_iald (D := D) hx hb hK hP 0 0 rfl rfl (vp_in_iff.mpr (by decide)) dX8_tick_92 ?_
                refine lv_icmp_lt (tgt := 100) hx hb dX8_tick_93 (by decide) (fun c_23 => ?_) (fun c_23 => ?_)
                · refine lv_iload_n hx hb dX8_tick_100 rfl (lv_at hl 0 rfl) ?_
                  exact hret _ _ ((rowh9 (16 : Int32).toNatClampNeg) - (row (16 : Int32).toNatClampNeg)) row_22 _ _ (by rw [hI_45, mX8_tick_L45_s, mX8_tick_S45]; (try dsimp only); rw [hw_19]; (try dsimp only); rw [if_pos c_20]; rw [hw_21]; (try dsimp only); rw [hw_22]; (try dsimp only); rw [if_pos c_23]; (first | done | rfl)) (hP.sub [0] rfl) (hD.sub [0] (by decide) rfl) hS dX8_tick_101
                · refine lv_aload_n hx hb dX8_tick_96 rfl (lv_at hl 2 rfl) ?_
                  refine fc_gov (isC := [0]) (isR := []) (wc := [(rw, .inl (tc 0, 357, .inl row_22))]) (wr := []) hP hD hS hA rfl rfl (by decide) (by decide) (fc_runS (isC := [0]) (As := [.ref rw]) (rest := []) hx hb hml hown hts hK hE hP hD hS hA rfl (by decide) (c_X8_endRound l D tc rw row_22 _ ) (cwS 1 hts gX8_tick_X8_endRound rfl rfl rfl hd_X8_endRound ⟨Nat.le_of_ble_eq_true rfl, Nat.le_of_ble_eq_true rfl⟩) rfl hl.1 rfl (Nat.le_of_ble_eq_true rfl) dX8_tick_97 ⟨Nat.le_of_ble_eq_true rfl, Nat.le_of_ble_eq_true rfl⟩) (fun u_24 H locs hw_24 hP hD hS => ?_)
                  obtain ⟨row_24, rfl⟩ : ∃ z, z = u_24 := ⟨_, rfl⟩
                  try dsimp only at hw_24
                  have hP : va_P D vwCl [(rw, .inl (tc 0, 357, .inl row_24))] H := hP
                  have hD : va_D A [(rw, .inl (tc 0, 357, .inl row_24))] := hD
                  refine lv_iload_n hx hb dX8_tick_100 rfl (lv_at hl 0 rfl) ?_
                  exact hret _ _ ((rowh9 (16 : Int32).toNatClampNeg) - (row (16 : Int32).toNatClampNeg)) row_24 _ _ (by rw [hI_45, mX8_tick_L45_s, mX8_tick_S45]; (try dsimp only); rw [hw_19]; (try dsimp only); rw [if_pos c_20]; rw [hw_21]; (try dsimp only); rw [hw_22]; (try dsimp only); rw [if_neg c_23]; rw [hw_24]; (try dsimp only); (first | done | rfl)) (hP.sub [0] rfl) (hD.sub [0] (by decide) rfl) hS dX8_tick_101
              · refine lv_aload_n hx hb dX8_tick_52 rfl (lv_at hl 2 rfl) ?_
                refine lv_bipush (v := 16) hx hb dX8_tick_53 (by decide) ?_
                refine va_iald (D := D) hx hb hK hP 0 0 rfl rfl (vp_in_iff.mpr (by decide)) dX8_tick_55 ?_
                refine lv_if_le (tgt := 71) hx hb dX8_tick_56 (by decide) (fun c_25 => ?_) (fun c_25 => ?_)
                · refine lv_aload_n hx hb dX8_tick_71 rfl (lv_at hl 2 rfl) ?_
                  refine lv_iconst (v := 4) hx hb dX8_tick_72 (by decide) ?_
                  refine lv_dup2_11 hx hb dX8_tick_73 rfl rfl ?_
                  refine va_iald (D := D) hx hb hK hP 0 0 rfl rfl (vp_in_iff.mpr (by decide)) dX8_tick_74 ?_
                  refine lv_iconst (v := 1) hx hb dX8_tick_75 (by decide) ?_
                  refine lv_iadd hx hb dX8_tick_76 ?_
                  refine va_iast (D := D) hx hb hK hP hD hS 0 0 rfl rfl (vp_in_iff.mpr (by decide)) dX8_tick_77 (fun H locs hP hD hS => ?_)
                  have hP : va_P D vwCl [(rw, .inl (tc 0, 357, .inl (upd rowh45 (4 : Int32).toNatClampNeg ((rowh45 (4 : Int32).toNatClampNeg) + 1))))] H := hP
                  have hD : va_D A [(rw, .inl (tc 0, 357, .inl (upd rowh45 (4 : Int32).toNatClampNeg ((rowh45 (4 : Int32).toNatClampNeg) + 1))))] := hD
                  obtain ⟨row_26, hw_26⟩ : ∃ z, (upd rowh45 (4 : Int32).toNatClampNeg ((rowh45 (4 : Int32).toNatClampNeg) + 1)) = z := ⟨_, rfl⟩
                  rw [hw_26] at hP hD
                  refine lv_aload_n hx hb dX8_tick_78 rfl (lv_at hl 2 rfl) ?_
                  refine lv_bipush (v := 11) hx hb dX8_tick_79 (by decide) ?_
                  refine lv_dup2_11 hx hb dX8_tick_81 rfl rfl ?_
                  refine va_iald (D := D) hx hb hK hP 0 0 rfl rfl (vp_in_iff.mpr (by decide)) dX8_tick_82 ?_
                  refine lv_iconst (v := 1) hx hb dX8_tick_83 (by decide) ?_
                  refine lv_iadd hx hb dX8_tick_84 ?_
                  refine va_iast (D := D) hx hb hK hP hD hS 0 0 rfl rfl (vp_in_iff.mpr (by decide)) dX8_tick_85 (fun H locs hP hD hS => ?_)
                  have hP : va_P D vwCl [(rw, .inl (tc 0, 357, .inl (upd row_26 (11 : Int32).toNatClampNeg ((row_26 (11 : Int32).toNatClampNeg) + 1))))] H := hP
                  have hD : va_D A [(rw, .inl (tc 0, 357, .inl (upd row_26 (11 : Int32).toNatClampNeg ((row_26 (11 : Int32).toNatClampNeg) + 1))))] := hD
                  obtain ⟨row_27, hw_27⟩ : ∃ z, (upd row_26 (11 : Int32).toNatClampNeg ((row_26 (11 : Int32).toNatClampNeg) + 1)) = z := ⟨_, rfl⟩
                  rw [hw_27] at hP hD
                  refine lv_aload_n hx hb dX8_tick_86 rfl (lv_at hl 2 rfl) ?_
                  refine lv_bipush (v := 11) hx hb dX8_tick_87 (by decide) ?_
                  refine va_iald (D := D) hx hb hK hP 0 0 rfl rfl (vp_in_iff.mpr (by decide)) dX8_tick_89 ?_
                  refine lv_aload_n hx hb dX8_tick_90 rfl (lv_at hl 2 rfl) ?_
                  refine lv_iconst (v := 2) hx hb dX8_tick_91 (by decide) ?_
                  refine va_iald (D := D) hx hb hK hP 0 0 rfl rfl (vp_in_iff.mpr (by decide)) dX8_tick_92 ?_
                  refine lv_icmp_lt (tgt := 100) hx hb dX8_tick_93 (by decide) (fun c_28 => ?_) (fun c_28 => ?_)
                  · refine lv_iload_n hx hb dX8_tick_100 rfl (lv_at hl 0 rfl) ?_
                    exact hret _ _ ((rowh9 (16 : Int32).toNatClampNeg) - (row (16 : Int32).toNatClampNeg)) row_27 _ _ (by rw [hI_45, mX8_tick_L45_s, mX8_tick_S45]; (try dsimp only); rw [hw_19]; (try dsimp only); rw [if_neg c_20]; rw [if_pos c_25]; rw [hw_26]; (try dsimp only); rw [hw_27]; (try dsimp only); rw [if_pos c_28]; (first | done | rfl)) (hP.sub [0] rfl) (hD.sub [0] (by decide) rfl) hS dX8_tick_101
                  · refine lv_aload_n hx hb dX8_tick_96 rfl (lv_at hl 2 rfl) ?_
                    refine fc_gov (isC := [0]) (isR := []) (wc := [(rw, .inl (tc 0, 357, .inl row_27))]) (wr := []) hP hD hS hA rfl rfl (by decide) (by decide) (fc_runS (isC := [0]) (As := [.ref rw]) (rest := []) hx hb hml hown hts hK hE hP hD hS hA rfl (by decide) (c_X8_endRound l D tc rw row_27 _ ) (cwS 1 hts gX8_tick_X8_endRound rfl rfl rfl hd_X8_endRound ⟨Nat.le_of_ble_eq_true rfl, Nat.le_of_ble_eq_true rfl⟩) rfl hl.1 rfl (Nat.le_of_ble_eq_true rfl) dX8_tick_97 ⟨Nat.le_of_ble_eq_true rfl, Nat.le_of_ble_eq_true rfl⟩) (fun u_29 H locs hw_29 hP hD hS => ?_)
                    obtain ⟨row_29, rfl⟩ : ∃ z, z = u_29 := ⟨_, rfl⟩
                    try dsimp only at hw_29
                    have hP : va_P D vwCl [(rw, .inl (tc 0, 357, .inl row_29))] H := hP
                    have hD : va_D A [(rw, .inl (tc 0, 357, .inl row_29))] := hD
                    refine lv_iload_n hx hb dX8_tick_100 rfl (lv_at hl 0 rfl) ?_
                    exact hret _ _ ((rowh9 (16 : Int32).toNatClampNeg) - (row (16 : Int32).toNatClampNeg)) row_29 _ _ (by rw [hI_45, mX8_tick_L45_s, mX8_tick_S45]; (try dsimp only); rw [hw_19]; (try dsimp only); rw [if_neg c_20]; rw [if_pos c_25]; rw [hw_26]; (try dsimp only); rw [hw_27]; (try dsimp only); rw [if_neg c_28]; rw [hw_29]; (try dsimp only); (first | done | rfl)) (hP.sub [0] rfl) (hD.sub [0] (by decide) rfl) hS dX8_tick_101
                · refine lv_aload_n hx hb dX8_tick_59 rfl (lv_at hl 2 rfl) ?_
                  refine lv_aload_n hx hb dX8_tick_60 rfl (lv_at hl 2 rfl) ?_
                  refine fc_goi (isC := [0]) (isR := []) (wc := [(rw, .inl (tc 0, 357, .inl rowh45))]) (wr := []) hP hD hS hA rfl rfl (by decide) (by decide) (fc_runS (isC := [0]) (As := [.ref rw]) (rest := [.ref rw]) hx hb hml hown hts hK hE hP hD hS hA rfl (by decide) (c_X8_leastOf l D tc rw rowh45 _ (RX_K hx_45).2.1.2) (cwS 1 hts gX8_tick_X8_leastOf rfl rfl rfl hd_X8_leastOf ⟨Nat.le_of_ble_eq_true rfl, Nat.le_of_ble_eq_true rfl⟩) rfl hl.1 rfl (Nat.le_of_ble_eq_true rfl) dX8_tick_61 ⟨Nat.le_of_ble_eq_true rfl, Nat.le_of_ble_eq_true rfl⟩) (fun r_30 u_30 H locs hw_30 hP hD hS => ?_)
                  try dsimp only at hw_30
                  have hP : va_P D vwCl [(rw, .inl (tc 0, 357, .inl rowh45))] H := hP
                  have hD : va_D A [(rw, .inl (tc 0, 357, .inl rowh45))] := hD
                  have hL := RX_least hx_45 (by assumption) hw_30
                  have hLw := hw_30
                  refine fc_goi (isC := [0]) (isR := []) (wc := [(rw, .inl (tc 0, 357, .inl rowh45))]) (wr := []) hP hD hS hA rfl rfl (by decide) (by decide) (fc_runS (isC := [0]) (As := [.ref rw, .int r_30]) (rest := []) hx hb hml hown hts hK hE hP hD hS hA rfl (by decide) (c_X8_dropIn l D tc rw rowh45 r_30 _ (RX_K hx_45).1 (RX_K hx_45).2.1.2 hL) (cwS 2 hts gX8_tick_X8_dropIn rfl rfl rfl hd_X8_dropIn ⟨Nat.le_of_ble_eq_true rfl, Nat.le_of_ble_eq_true rfl⟩) rfl hl.1 rfl (Nat.le_of_ble_eq_true rfl) dX8_tick_64 ⟨Nat.le_of_ble_eq_true rfl, Nat.le_of_ble_eq_true rfl⟩) (fun r_31 u_31 H locs hw_31 hP hD hS => ?_)
                  obtain ⟨row_31, rfl⟩ : ∃ z, z = u_31 := ⟨_, rfl⟩
                  try dsimp only at hw_31
                  have hP : va_P D vwCl [(rw, .inl (tc 0, 357, .inl row_31))] H := hP
                  have hD : va_D A [(rw, .inl (tc 0, 357, .inl row_31))] := hD
                  have HD := RX_drop hx_45 (by assumption) hLw hw_31
                  refine lv_pop hx hb dX8_tick_67 rfl ?_
                  refine lv_goto (tgt := 45) hx hb dX8_tick_68 (by decide) ?_
                  exact ih_45 row_31 (HD).2.1 (by have q := RX_K (HD).2.1; have q2 := (HD).2.2; omega) (by rw [hI_45, mX8_tick_L45_s, mX8_tick_S45]; (try dsimp only); rw [hw_19]; (try dsimp only); rw [if_neg c_20]; rw [if_neg c_25]; rw [hw_30]; (try dsimp only); rw [hw_31]; (try dsimp only); (first | done | rfl)) _ _ (hP.sub [0] rfl) (hD.sub [0] (by decide) rfl) hS ls (lv_sub hl [0, 1, 2] rfl)
          exact loop_45 49 rowh9 hx_9 (by have q := RX_K hx_9; omega) (by rw [hI_9, mX8_tick_L9_s, mX8_tick_S9]; (try dsimp only); rw [if_neg c_2]; rw [hw_16]; (try dsimp only); rw [hw_17]; (try dsimp only); rw [if_pos c_18]; (first | done | rfl)) _ _ (hP.sub [0] rfl) (hD.sub [0] (by decide) rfl) hS ls (lv_sub hl [0, 1, 2] rfl)
        · refine lv_aload_n hx hb dX8_tick_31 rfl (lv_at hl 1 rfl) ?_
          refine fc_gov (isC := [0]) (isR := []) (wc := [(rw, .inl (tc 0, 357, .inl rowh9))]) (wr := []) hP hD hS hA rfl rfl (by decide) (by decide) (fc_runS (isC := [0]) (As := [.ref rw]) (rest := []) hx hb hml hown hts hK hE hP hD hS hA rfl (by decide) (c_X8_store l D tc rw rowh9 _ (RX_K hx_9).1 ⟨(RX_K hx_9).2.1.1, (RX_store hx_9 hCw hWw (by assumption) (by assumption) rfl).1⟩ ⟨(RX_store hx_9 hCw hWw (by assumption) (by assumption) rfl).2.1, (RX_K hx_9).2.2.2⟩) (cwS 1 hts gX8_tick_X8_store rfl rfl rfl hd_X8_store ⟨Nat.le_of_ble_eq_true rfl, Nat.le_of_ble_eq_true rfl⟩) rfl hl.1 rfl (Nat.le_of_ble_eq_true rfl) dX8_tick_32 ⟨Nat.le_of_ble_eq_true rfl, Nat.le_of_ble_eq_true rfl⟩) (fun u_32 H locs hw_32 hP hD hS => ?_)
          obtain ⟨row_32, rfl⟩ : ∃ z, z = u_32 := ⟨_, rfl⟩
          try dsimp only at hw_32
          have hP : va_P D vwCl [(rw, .inl (tc 0, 357, .inl row_32))] H := hP
          have hD : va_D A [(rw, .inl (tc 0, 357, .inl row_32))] := hD
          have HG := RX_store hx_9 hCw hWw (by assumption) (by assumption) hw_32
          refine lv_goto (tgt := 9) hx hb dX8_tick_35 (by decide) ?_
          exact ih_9 row_32 (HG).2.2.1 (by have q := RX_K (HG).2.2.1; have q2 := (HG).2.2.2; omega) (by rw [hI_9, mX8_tick_L9_s, mX8_tick_S9]; (try dsimp only); rw [if_neg c_2]; rw [hw_16]; (try dsimp only); rw [hw_17]; (try dsimp only); rw [if_neg c_18]; rw [hw_32]; (try dsimp only); (first | done | rfl)) _ _ (hP.sub [0] rfl) (hD.sub [0] (by decide) rfl) hS ls (lv_sub hl [0, 1] rfl)
  exact loop_9 5 row_1 hs_1 (by have q := RX_K hs_1; omega) (by rw [mX8_tick]; (try dsimp only); rw [hw_1]; (try dsimp only); (first | done | rfl)) _ _ (hP.sub [0] rfl) (hD.sub [0] (by decide) rfl) hS ls (lv_sub hl [0, 1] rfl)
