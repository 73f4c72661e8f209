/-! What holds at the law's entry -/
theorem ls_in {L T : List Cond} (is : List Nat) (h : is.map (fun i => T[i]?) = L.map some) : ∀ w ∈ L, w ∈ T := by
  intro w hw
  have h1 : some w ∈ L.map some := List.mem_map.mpr ⟨w, hw, rfl⟩
  rw [← h] at h1
  obtain ⟨i, -, e⟩ := List.mem_map.mp h1
  exact List.mem_of_getElem? e
def lsG : List Cond := flatC (Jvm.Cond.and given_1 narrow_1)
def lsN : List Cond := [.arrayOf (.static "FrameCard" "SETTING_AT_FIRST" "[I") .int, .eq (.length (.static "FrameCard" "SETTING_AT_FIRST" "[I")) (.int 3), .eq (.elem (.static "FrameCard" "SETTING_AT_FIRST" "[I") (.int 0)) (.int 2), .eq (.elem (.static "FrameCard" "SETTING_AT_FIRST" "[I") (.int 1)) (.int 2), .eq (.elem (.static "FrameCard" "SETTING_AT_FIRST" "[I") (.int 2)) (.int 4), .arrayOf (.static "FrameCard" "SETTING_LOWEST" "[I") .int, .eq (.length (.static "FrameCard" "SETTING_LOWEST" "[I")) (.int 3), .eq (.elem (.static "FrameCard" "SETTING_LOWEST" "[I") (.int 0)) (.int 0), .eq (.elem (.static "FrameCard" "SETTING_LOWEST" "[I") (.int 1)) (.int 0), .eq (.elem (.static "FrameCard" "SETTING_LOWEST" "[I") (.int 2)) (.int 1), .arrayOf (.static "FrameCard" "SETTING_HIGHEST" "[I") .int, .eq (.length (.static "FrameCard" "SETTING_HIGHEST" "[I")) (.int 3), .eq (.elem (.static "FrameCard" "SETTING_HIGHEST" "[I") (.int 0)) (.int 8), .eq (.elem (.static "FrameCard" "SETTING_HIGHEST" "[I") (.int 1)) (.int 9), .eq (.elem (.static "FrameCard" "SETTING_HIGHEST" "[I") (.int 2)) (.int 20), .isRef (.static "java/lang/Throwable" "UNASSIGNED_STACK" "[Ljava/lang/StackTraceElement;"), .isRef (.static "java/lang/Throwable" "SUPPRESSED_SENTINEL" "Ljava/util/List;"), .not (.castable "java/lang/IllegalStateException" "java/lang/IllegalArgumentException"), .not (.castable "java/lang/IllegalArgumentException" "java/lang/IndexOutOfBoundsException"), .not (.castable "java/lang/IllegalStateException" "java/lang/IndexOutOfBoundsException")]
def lsT : List Cond := [.laysStatic "FrameCard" "SETTING_AT_FIRST" "[I", .laysStatic "FrameCard" "SETTING_LOWEST" "[I", .laysStatic "FrameCard" "SETTING_HIGHEST" "[I", .laysStatic "java/lang/Throwable" "UNASSIGNED_STACK" "[Ljava/lang/StackTraceElement;", .laysStatic "java/lang/Throwable" "SUPPRESSED_SENTINEL" "Ljava/util/List;", .initialized "FrameCard", .initialized "java/lang/Throwable", .castable "java/lang/IllegalArgumentException" "java/lang/IllegalArgumentException", .castable "java/lang/IllegalStateException" "java/lang/IllegalStateException", .castable "java/lang/IndexOutOfBoundsException" "java/lang/IndexOutOfBoundsException", .arrayClass .int, .arrayClass .char, .arrayClass .boolean, .arrayClass .long, .arrayOver (.object "FrameCard$State"), .instantiable "FrameCard$Blocks" 4, .instantiable "FrameCard$Frames" 2, .instantiable "FrameCard$History" 3, .instantiable "FrameCard$Rounds" 7, .instantiable "FrameCard$Slot" 2, .instantiable "FrameCard$State" 11, .instantiable "FrameCard$Text" 2, .instantiable "FrameCard" 6, .instantiable "FrameCardModel" 13, .classLink "FrameCardLaw" 8 "FrameCard", .initialized "FrameCardModel", .classLink "FrameCardLaw" 84 "FrameCardModel", .methodLink "FrameCardLaw" 83 { cls := "FrameCard", name := "<init>", desc := "()V" }, .instanceMethod { cls := "FrameCard", name := "<init>", desc := "()V" }, .methodLink "FrameCardLaw" 86 { cls := "FrameCardModel", name := "<init>", desc := "()V" }, .instanceMethod { cls := "FrameCardModel", name := "<init>", desc := "()V" }]
set_option maxHeartbeats 4000000 in
set_option maxRecDepth 100000 in
theorem lsN_in : ∀ w ∈ lsN, w ∈ lsG := ls_in [5, 6, 7, 8, 9, 11, 12, 13, 14, 15, 17, 18, 19, 20, 21, 22, 23, 33, 55, 56] (by decide +kernel)
set_option maxHeartbeats 4000000 in
set_option maxRecDepth 100000 in
theorem lsT_in0 : ∀ w ∈ lsT, w ∈ tables_1 := ls_in [127, 271, 273, 442, 444, 1, 11, 417, 485, 551, 70, 39, 808, 1077, 194, 47, 72, 188, 87, 208, 41, 26, 18, 760, 17, 10, 759, 19, 20, 761, 762] (by decide +kernel)
theorem lsT_in : ∀ w ∈ lsT, w ∈ lw_tbl := fun w h => List.mem_append_right _ (lsT_in0 w h)
set_option maxHeartbeats 4000000 in
set_option maxRecDepth 100000 in
theorem lsS_in0 : ∀ w ∈ fcSt.map (fun q => Cond.stringRef q.1 q.2.1 q.2.2), w ∈ tables_1 := ls_in [456, 492, 510, 540, 558, 565, 573, 574, 582, 598, 599, 622, 642, 657, 672, 680, 699, 707, 715, 717, 739, 750, 758] (by decide +kernel)
set_option maxHeartbeats 4000000 in
set_option maxRecDepth 100000 in
theorem lsS_inx : ∀ w ∈ fcSt.map (fun q => Cond.exactly (.string q.1 q.2.1) "java/lang/String"), w ∈ lsG := ls_in [57, 84, 105, 133, 155, 181, 204, 235, 260, 285, 320, 348, 387, 415, 457, 511, 552, 591, 650, 683, 739, 775, 821] (by decide +kernel)
set_option maxHeartbeats 4000000 in
set_option maxRecDepth 100000 in
theorem lsE_in0 : ∀ w ∈ fcNW, w ∈ tables_1 := ls_in [148, 154, 156, 80, 150, 158, 160, 162, 146, 57, 59, 152, 104, 106, 54, 94, 102, 199, 216, 33, 144, 217, 56, 101, 60, 95, 126, 79, 97, 99, 270, 272, 27, 209, 361, 48, 88, 530, 279] (by decide +kernel)
set_option maxHeartbeats 4000000 in
set_option maxRecDepth 100000 in
theorem lsE_in1 : ∀ w ∈ fcEW, w ∈ tables_1 := by decide +kernel
set_option maxHeartbeats 4000000 in
set_option maxRecDepth 100000 in
theorem lsE_on : fcEW.all Cond.onTables = true := by decide +kernel
theorem ls_eval {args : Array Value} {s : State} {t : Term} {z : Int32} (h : (Cond.eq t (.int z)).before args s = true) : t.eval args s none [] s = some (.int z) := by
  obtain ⟨y, h1, h2⟩ := Cond.eq_one h
  have h3 : (Term.int z).eval args s none [] s = some (.int z) := rfl
  exact h1.trans (h2.symm.trans h3)
theorem ls_Z {args : Array Value} {s : State} {A : Nat → Prop} {n : String} {f : Nat → Int32} (hA : ∀ a : Nat, a < s.heap.size → ¬ A a) (hl : (Cond.laysStatic "FrameCard" n "[I").before args s = true) (hini : (Cond.initialized "FrameCard").before args s = true) (ha : (Cond.arrayOf (.static "FrameCard" n "[I") .int).before args s = true) (h3 : (Cond.eq (.length (.static "FrameCard" n "[I")) (.int 3)).before args s = true)
    (e0 : (Cond.eq (.elem (.static "FrameCard" n "[I") (.int 0)) (.int (f 0))).before args s = true) (e1 : (Cond.eq (.elem (.static "FrameCard" n "[I") (.int 1)) (.int (f 1))).before args s = true) (e2 : (Cond.eq (.elem (.static "FrameCard" n "[I") (.int 2)) (.int (f 2))).before args s = true) : fcZ n f A s s.heap := by
  obtain ⟨t, ht, hT⟩ := va_Tof (tm := .static "FrameCard" n "[I") (ty := .int) (N := 3) (f := fun j => .int (f j)) (by decide) ha (ls_eval h3) (fun j hj => by
    rcases (show j = 0 ∨ j = 1 ∨ j = 2 by omega) with rfl | rfl | rfl
    · exact ls_eval e0
    · exact ls_eval e1
    · exact ls_eval e2) hA
  exact ⟨t, va_Zref hl hini ht hA, hT⟩
theorem ls_arr {args : Array Value} {s : State} {ty : FieldType} (h : (Cond.arrayClass ty).before args s = true) (hne : ∀ C, ty ≠ .object C) : ∃ c, ArrOfT s c ty ∧ va_RA s c ty := by
  obtain ⟨c, k, comp, h1, h2, h3⟩ := Cond.arrayClass_spec h
  exact ⟨c, fun n z => ⟨(fun k h => by cases h), k, h2, comp, h3⟩, by cases ty <;> first | exact h1 | exact absurd rfl (hne _)⟩
theorem ls_arrO {args : Array Value} {s : State} {C : String} (h : (Cond.arrayOver (.object C)).before args s = true) : ∃ c, ArrOfT s c (.object C) ∧ va_RA s c (.object C) := by
  obtain ⟨comp, c, k, h1, h2, h3, h4, h5⟩ := Cond.arrayOver_spec h
  exact ⟨c, fun n z => ⟨(fun k h => by cases h), k, h3, comp, h4⟩, k, comp, h3, h4, h1, h5⟩
set_option maxHeartbeats 4000000 in
set_option maxRecDepth 100000 in
theorem ls_E {s : State} {args : Array Value} (hts : ∀ w ∈ lw_tbl, w.before args s = true) (hg : ∀ w ∈ lsG, w.before args s = true) : fcE (fun q => s.heap.size ≤ q) s s.heap := by
  have hA : ∀ a : Nat, a < s.heap.size → ¬ (fun q => s.heap.size ≤ q) a := fun a h => Nat.not_le.mpr h
  refine ⟨⟨ls_Z (f := fcS0) hA (hts _ (lsT_in _ (List.mem_of_getElem? (i := 0) rfl))) (hts _ (lsT_in _ (List.mem_of_getElem? (i := 5) rfl))) (hg _ (lsN_in _ (List.mem_of_getElem? (i := 0) rfl))) (hg _ (lsN_in _ (List.mem_of_getElem? (i := 1) rfl))) (hg _ (lsN_in _ (List.mem_of_getElem? (i := 2) rfl))) (hg _ (lsN_in _ (List.mem_of_getElem? (i := 3) rfl))) (hg _ (lsN_in _ (List.mem_of_getElem? (i := 4) rfl))), ls_Z (f := fcS1) hA (hts _ (lsT_in _ (List.mem_of_getElem? (i := 1) rfl))) (hts _ (lsT_in _ (List.mem_of_getElem? (i := 5) rfl))) (hg _ (lsN_in _ (List.mem_of_getElem? (i := 5) rfl))) (hg _ (lsN_in _ (List.mem_of_getElem? (i := 6) rfl))) (hg _ (lsN_in _ (List.mem_of_getElem? (i := 7) rfl))) (hg _ (lsN_in _ (List.mem_of_getElem? (i := 8) rfl))) (hg _ (lsN_in _ (List.mem_of_getElem? (i := 9) rfl))), ls_Z (f := fcS2) hA (hts _ (lsT_in _ (List.mem_of_getElem? (i := 2) rfl))) (hts _ (lsT_in _ (List.mem_of_getElem? (i := 5) rfl))) (hg _ (lsN_in _ (List.mem_of_getElem? (i := 10) rfl))) (hg _ (lsN_in _ (List.mem_of_getElem? (i := 11) rfl))) (hg _ (lsN_in _ (List.mem_of_getElem? (i := 12) rfl))) (hg _ (lsN_in _ (List.mem_of_getElem? (i := 13) rfl))) (hg _ (lsN_in _ (List.mem_of_getElem? (i := 14) rfl)))⟩, ⟨?_, ?_⟩, ?_, ?_⟩
  · exact vx_Zqof (hts _ (lsT_in _ (List.mem_of_getElem? (i := 3) rfl))) (hts _ (lsT_in _ (List.mem_of_getElem? (i := 6) rfl))) (hg _ (lsN_in _ (List.mem_of_getElem? (i := 15) rfl))) hA
  · exact vx_Zqof (hts _ (lsT_in _ (List.mem_of_getElem? (i := 4) rfl))) (hts _ (lsT_in _ (List.mem_of_getElem? (i := 6) rfl))) (hg _ (lsN_in _ (List.mem_of_getElem? (i := 16) rfl))) hA
  · intro w hw
    rcases List.mem_append.mp hw with h | h
    · exact va_Nw.of (List.all_eq_true.mp lsE_on w h) (hts w (List.mem_append_right _ (lsE_in1 w h)))
    · exact va_Nw.of (List.all_eq_true.mp fcNW_on w h) (hts w (List.mem_append_right _ (lsE_in0 w h)))
  · intro q hq
    have h1 := hts _ (List.mem_append_right _ (lsS_in0 _ (List.mem_map.mpr ⟨q, hq, rfl⟩)))
    have h2 := hg _ (lsS_inx _ (List.mem_map.mpr ⟨q, hq, rfl⟩))
    obtain ⟨a, c, cell, k, e, -⟩ := Cond.exactly_spec h2
    exact ⟨a, vk_R.of h1 e⟩
set_option maxHeartbeats 4000000 in
set_option maxRecDepth 100000 in
theorem ls_Cat {s : State} {args : Array Value} (hts : ∀ w ∈ lw_tbl, w.before args s = true) (hg : ∀ w ∈ lsG, w.before args s = true) : fcCat s := ⟨⟨va_Nw.of rfl (hts _ (lsT_in _ (List.mem_of_getElem? (i := 7) rfl))), va_Nw.of rfl (hts _ (lsT_in _ (List.mem_of_getElem? (i := 8) rfl))), va_Nw.of rfl (hts _ (lsT_in _ (List.mem_of_getElem? (i := 9) rfl)))⟩, va_Nc.of (hg _ (lsN_in _ (List.mem_of_getElem? (i := 17) rfl))), va_Nc.of (hg _ (lsN_in _ (List.mem_of_getElem? (i := 18) rfl))), va_Nc.of (hg _ (lsN_in _ (List.mem_of_getElem? (i := 19) rfl)))⟩
theorem ls_AO {s : State} {args : Array Value} (hts : ∀ w ∈ lw_tbl, w.before args s = true) : va_AO "FrameCard$State" s := va_AO.of (hts _ (lsT_in _ (List.mem_of_getElem? (i := 14) rfl)))
set_option maxHeartbeats 4000000 in
set_option maxRecDepth 100000 in
theorem ls_K {s : State} {args : Array Value} (hts : ∀ w ∈ lw_tbl, w.before args s = true) : ∃ (D : va_G) (tc : Nat → ClassId), va_K D vwCl (fcT tc) s := by
  obtain ⟨c0, i0, hk0⟩ := u_known (C := RX0) (T := TX0) (N := 4) (n := 4) hts inX0 (hts _ (lsT_in _ (List.mem_of_getElem? (i := 15) rfl)))
  obtain ⟨c1, i1, hk1⟩ := u_known (C := RX1) (T := TX1) (N := 2) (n := 2) hts inX1 (hts _ (lsT_in _ (List.mem_of_getElem? (i := 16) rfl)))
  obtain ⟨c2, i2, hk2⟩ := u_known (C := RX2) (T := TX2) (N := 3) (n := 3) hts inX2 (hts _ (lsT_in _ (List.mem_of_getElem? (i := 17) rfl)))
  obtain ⟨c3, i3, hk3⟩ := u_known (C := RX3) (T := TX3) (N := 7) (n := 7) hts inX3 (hts _ (lsT_in _ (List.mem_of_getElem? (i := 18) rfl)))
  obtain ⟨c4, i4, hk4⟩ := u_known (C := RX4) (T := TX4) (N := 2) (n := 2) hts inX4 (hts _ (lsT_in _ (List.mem_of_getElem? (i := 19) rfl)))
  obtain ⟨c5, i5, hk5⟩ := u_known (C := RX5) (T := TX5) (N := 11) (n := 11) hts inX5 (hts _ (lsT_in _ (List.mem_of_getElem? (i := 20) rfl)))
  obtain ⟨c6, i6, hk6⟩ := u_known (C := RX6) (T := TX6) (N := 2) (n := 2) hts inX6 (hts _ (lsT_in _ (List.mem_of_getElem? (i := 21) rfl)))
  obtain ⟨c7, i7, hk7⟩ := u_known (C := RX7) (T := TX7) (N := 6) (n := 6) hts inX7 (hts _ (lsT_in _ (List.mem_of_getElem? (i := 22) rfl)))
  obtain ⟨c8, i8, hk8⟩ := u_known (C := RX8) (T := TX8) (N := 13) (n := 13) hts inX8 (hts _ (lsT_in _ (List.mem_of_getElem? (i := 23) rfl)))
  obtain ⟨t0, ht0⟩ := ls_arr (hts _ (lsT_in _ (List.mem_of_getElem? (i := 10) rfl))) (fun C h => by cases h)
  obtain ⟨t1, ht1⟩ := ls_arr (hts _ (lsT_in _ (List.mem_of_getElem? (i := 11) rfl))) (fun C h => by cases h)
  obtain ⟨t2, ht2⟩ := ls_arr (hts _ (lsT_in _ (List.mem_of_getElem? (i := 12) rfl))) (fun C h => by cases h)
  obtain ⟨t3, ht3⟩ := ls_arr (hts _ (lsT_in _ (List.mem_of_getElem? (i := 13) rfl))) (fun C h => by cases h)
  obtain ⟨t4, ht4⟩ := ls_arrO (hts _ (lsT_in _ (List.mem_of_getElem? (i := 14) rfl)))
  refine ⟨((fun k => match k with | 0 => c0 | 1 => c1 | 2 => c2 | 3 => c3 | 4 => c4 | 5 => c5 | 6 => c6 | 7 => c7 | _ => c8), (fun k => match k with | 0 => i0 | 1 => i1 | 2 => i2 | 3 => i3 | 4 => i4 | 5 => i5 | 6 => i6 | 7 => i7 | _ => i8)), (fun k => match k with | 0 => t0 | 1 => t1 | 2 => t2 | 3 => t3 | _ => t4), ?_, ?_⟩
  · intro c q hq
    match c, hq with
    | 0, hq => cases hq; exact hk0
    | 1, hq => cases hq; exact hk1
    | 2, hq => cases hq; exact hk2
    | 3, hq => cases hq; exact hk3
    | 4, hq => cases hq; exact hk4
    | 5, hq => cases hq; exact hk5
    | 6, hq => cases hq; exact hk6
    | 7, hq => cases hq; exact hk7
    | 8, hq => cases hq; exact hk8
    | c + 9, hq => first | (cases hq; done) | (simp [vwCl] at hq; done)
  · intro k q hq
    match k, hq with
    | 0, hq => cases hq; exact ht0
    | 1, hq => cases hq; exact ht1
    | 2, hq => cases hq; exact ht2
    | 3, hq => cases hq; exact ht3
    | 4, hq => cases hq; exact ht4
    | k + 5, hq => first | (cases hq; done) | (simp [fcT] at hq; done)
