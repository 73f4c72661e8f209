/-! The reference: ticks -/
--# X8_ticksIn
theorem hd_X8_tick : yX8_tick.cls = RX8 ∧ yX8_tick.cls ≠ "java/lang/invoke/MethodHandle" ∧ yX8_tick.cls ≠ "java/lang/invoke/VarHandle" ∧ (parseMethodDescriptor yX8_tick.desc).map (fun d => d.parameters.length) = some 1 := by decide +kernel
theorem hd_X8_tickn : yX8_tick.cls ≠ "java/lang/invoke/MethodHandle" ∧ yX8_tick.cls ≠ "java/lang/invoke/VarHandle" ∧ (parseMethodDescriptor yX8_tick.desc).map (fun d => d.parameters.length) = some 1 := by decide +kernel
noncomputable def mX8_ticksIn_S4 (p0 : Int32) (ih_4 : Int32 → Int32 → (Nat → Int32) → Int32 × (Nat → Int32)) (x2h4 : Int32) (x3h4 : Int32) (rowh4 : Nat → Int32) : Int32 × (Nat → Int32) :=
  if p0 ≤ x3h4 then
    (x2h4, rowh4)
  else
    match mX8_tick rowh4 with
    | (r_2, row_2) =>
      ih_4 (x2h4 + r_2) (x3h4 + 1) row_2
noncomputable def mX8_ticksIn_L4 (p0 : Int32) (k : Nat) : Int32 → Int32 → (Nat → Int32) → Int32 × (Nat → Int32) := Nat.rec (motive := fun _ => Int32 → Int32 → (Nat → Int32) → Int32 × (Nat → Int32)) (fun x2h4 x3h4 rowh4 => (0, rowh4)) (fun _ ih => mX8_ticksIn_S4 p0 ih) k
theorem mX8_ticksIn_L4_z (p0 : Int32) (x2h4 : Int32) (x3h4 : Int32) (rowh4 : Nat → Int32) : mX8_ticksIn_L4 p0 0 x2h4 x3h4 rowh4 = (0, rowh4) := rfl
theorem mX8_ticksIn_L4_s (p0 : Int32) (k : Nat) (x2h4 : Int32) (x3h4 : Int32) (rowh4 : Nat → Int32) : mX8_ticksIn_L4 p0 (k + 1) x2h4 x3h4 rowh4 = mX8_ticksIn_S4 p0 (mX8_ticksIn_L4 p0 k) x2h4 x3h4 rowh4 := rfl
noncomputable def mX8_ticksIn (row : Nat → Int32) (p0 : Int32) : Int32 × (Nat → Int32) :=
  mX8_ticksIn_L4 p0 51 0 0 row
abbrev rmX8_ticksIn : Room := { frames := 4, cells := 0, slots := 0, locals := 91 }
set_option maxHeartbeats 4000000 in
set_option maxRecDepth 100000 in
theorem c_X8_ticksIn (l : Launch) (D : va_G) (tc : Nat → ClassId) (rw : Nat) (row : Nat → Int32) (p0 : Int32) (sz : Nat) (hn : p0.toInt ≤ 50) (hR : RXn 51 row) : Met l yX8_ticksIn wsX8_ticksIn rmX8_ticksIn (va_Pc [.ref rw, .int p0] (fcB D tc [(rw, .inl (tc 0, 357, .inl row))] sz)) (va_Qi (fun (r : Int32) (u : Nat → Int32) => mX8_ticksIn row p0 = (r, u)) (fun u t => fcO D (va_A [(rw, .inl (tc 0, 357, .inl row))] sz) ((fun (u : Nat → Int32) => [(rw, .inl (tc 0, 357, .inl u))]) u) t) (va_A [(rw, .inl (tc 0, 357, .inl row))] sz)) 0 0 (va_A [(rw, .inl (tc 0, 357, .inl row))] sz) := by
  refine fc_ofWi (own := RX8) (cc := cX8_ticksIn) (maxL := 4) (W1 := (fun (u : Nat → Int32) => [(rw, .inl (tc 0, 357, .inl u))])) rfl (by decide) rfl (Nat.le_of_ble_eq_true rfl) ?_
  intro p e s m args below meth c A Q hx hb hml hown hts hK hE hP hD hS hA hin hret ls hl
  have hl : lv_has ls 4 [(0, .ref rw), (1, .int p0)] := hl
  refine lv_iconst (v := 0) hx hb dX8_ticksIn_0 (by decide) ?_
  refine lv_istore_n (lv' := [(2, .int 0), (0, .ref rw), (1, .int p0)]) hx hb dX8_ticksIn_1 rfl hl (by decide) rfl (fun ls hl => ?_)
  refine lv_iconst (v := 0) hx hb dX8_ticksIn_2 (by decide) ?_
  refine lv_istore_n (lv' := [(3, .int 0), (2, .int 0), (0, .ref rw), (1, .int p0)]) hx hb dX8_ticksIn_3 rfl hl (by decide) rfl (fun ls hl => ?_)
  have loop_4 : ∀ (k_4 : Nat) (i_4 : Nat) (x2h4 : Int32) (x3h4 : Int32) (rowh4 : Nat → Int32) (hb_4 : x3h4 = nI i_4) (hm_4 : i_4 ≤ 50 ∧ 50 < i_4 + k_4) (hx_4 : RXn k_4 rowh4) (hI_4 : mX8_ticksIn row p0 = mX8_ticksIn_L4 p0 k_4 x2h4 x3h4 rowh4) (H : Heap) (locs : List Loc), va_P D vwCl [(rw, .inl (tc 0, 357, .inl rowh4))] H → va_D A [(rw, .inl (tc 0, 357, .inl rowh4))] → va_S A s.heap H locs → ∀ ls : Array Slot, lv_has ls 4 [(3, .int x3h4), (2, .int x2h4), (0, .ref rw), (1, .int p0)] → W p l e rmX8_ticksIn s m args below meth c H locs 0 0 Q (F0 m 4 ls []) := by
    intro k_4
    induction k_4 with
    | zero =>
      intro i_4 x2h4 x3h4 rowh4 hb_4 hm_4 hx_4 hI_4 H locs hP hD hS ls hl
      exact absurd hm_4 (by omega)
    | succ k_4 ih_4 =>
      intro i_4 x2h4 x3h4 rowh4 hb_4 hm_4 hx_4 hI_4 H locs hP hD hS ls hl
      have zz_4 := fc_nI (n := i_4) (by omega)
      rw [← hb_4] at zz_4
      refine lv_iload_n hx hb dX8_ticksIn_4 rfl (lv_at hl 0 rfl) ?_
      refine lv_iload_n hx hb dX8_ticksIn_5 rfl (lv_at hl 3 rfl) ?_
      refine lv_icmp_ge (tgt := 22) hx hb dX8_ticksIn_6 (by decide) (fun c_1 => ?_) (fun c_1 => ?_)
      · refine lv_iload_n hx hb dX8_ticksIn_22 rfl (lv_at hl 1 rfl) ?_
        exact hret _ _ (x2h4) rowh4 _ _ (by rw [hI_4, mX8_ticksIn_L4_s, mX8_ticksIn_S4]; (try dsimp only); rw [if_pos c_1]; (first | done | rfl)) (hP.sub [0] rfl) (hD.sub [0] (by decide) rfl) hS dX8_ticksIn_23
      · refine lv_iload_n hx hb dX8_ticksIn_9 rfl (lv_at hl 1 rfl) ?_
        refine lv_aload_n hx hb dX8_ticksIn_10 rfl (lv_at hl 2 rfl) ?_
        refine fc_goi (isC := [0]) (isR := []) (wc := [(rw, .inl (tc 0, 357, .inl rowh4))]) (wr := []) hP hD hS hA rfl rfl (by decide) (by decide) (fc_runS (isC := [0]) (As := [.ref rw]) (rest := [.int x2h4]) hx hb hml hown hts hK hE hP hD hS hA rfl (by decide) (c_X8_tick l D tc rw rowh4 _ (hx_4.mono (by omega))) (cwS 1 hts gX8_ticksIn_X8_tick rfl rfl rfl hd_X8_tick ⟨Nat.le_of_ble_eq_true rfl, Nat.le_of_ble_eq_true rfl⟩) rfl hl.1 rfl (Nat.le_of_ble_eq_true rfl) dX8_ticksIn_11 ⟨Nat.le_of_ble_eq_true rfl, Nat.le_of_ble_eq_true rfl⟩) (fun r_2 u_2 H locs hw_2 hP hD hS => ?_)
        obtain ⟨row_2, rfl⟩ : ∃ z, z = u_2 := ⟨_, rfl⟩
        try dsimp only at hw_2
        have hP : va_P D vwCl [(rw, .inl (tc 0, 357, .inl row_2))] H := hP
        have hD : va_D A [(rw, .inl (tc 0, 357, .inl row_2))] := hD
        have HT := hw_2
        refine lv_iadd hx hb dX8_ticksIn_14 ?_
        refine lv_istore_n (lv' := [(2, .int (x2h4 + r_2)), (3, .int x3h4), (0, .ref rw), (1, .int p0)]) hx hb dX8_ticksIn_15 rfl hl (by decide) rfl (fun ls hl => ?_)
        refine lv_iinc (v := (x3h4 + 1)) (lv' := [(3, .int (x3h4 + 1)), (2, .int (x2h4 + r_2)), (0, .ref rw), (1, .int p0)]) hx hb dX8_ticksIn_16 hl (k := 1) rfl rfl (by decide) rfl (fun ls hl => ?_)
        refine lv_goto (tgt := 4) hx hb dX8_ticksIn_19 (by decide) ?_
        exact ih_4 (i_4 + 1) (x2h4 + r_2) (x3h4 + 1) row_2 (by rw [hb_4]; exact nI_1 _) (by have l_0 : (0 : Int32).toInt = 0 := (by decide); have l_1 : (1 : Int32).toInt = 1 := (by decide); have l_2 : (2 : Int32).toInt = 2 := (by decide); have l_3 : (3 : Int32).toInt = 3 := (by decide); have l_4 : (4 : Int32).toInt = 4 := (by decide); have qc_1 := c_1; (try simp only [fc_le, fc_lt, fc_eq] at qc_1); skip; omega) (RX_tick hx_4 HT) (by rw [hI_4, mX8_ticksIn_L4_s, mX8_ticksIn_S4]; (try dsimp only); rw [if_neg c_1]; rw [hw_2]; (try dsimp only); (first | done | rfl)) _ _ (hP.sub [0] rfl) (hD.sub [0] (by decide) rfl) hS ls (lv_sub hl [0, 1, 2, 3] rfl)
  exact loop_4 51 0 0 0 row nI_0.symm (by omega) hR (by rw [mX8_ticksIn]; (first | done | rfl)) _ _ (hP.sub [0] rfl) (hD.sub [0] (by decide) rfl) hS ls (lv_sub hl [0, 1, 2, 3] rfl)
