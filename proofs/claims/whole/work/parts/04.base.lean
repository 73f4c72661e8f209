/-! The environment that every method carries along (what the statics hold, the words and texts of throws), the one shape of all contracts, and calls in that shape. -/
abbrev vwCl : List vw_C := [(RX0, TX0, 4), (RX1, TX1, 2), (RX2, TX2, 3), (RX3, TX3, 7), (RX4, TX4, 2), (RX5, TX5, 11), (RX6, TX6, 2), (RX7, TX7, 6), (RX8, TX8, 13)]
abbrev fcT (tc : Nat → ClassId) : List (ClassId × FieldType) := [(tc 0, .int), (tc 1, .char), (tc 2, .boolean), (tc 3, .long), (tc 4, .object "FrameCard$State")]
def fcS0 : Nat → Int32 := fun j => match j with
  | 2 => 4
  | _ => 2
def fcS1 : Nat → Int32 := fun j => match j with
  | 2 => 1
  | _ => 0
def fcS2 : Nat → Int32 := fun j => match j with
  | 0 => 8
  | 1 => 9
  | _ => 20
def fcNm : List String := ["java/lang/RuntimeException", "java/lang/Exception"]
def fcEW : List Cond := (vx_atS RX7 47 "java/lang/IllegalArgumentException" ["java/lang/RuntimeException", "java/lang/Exception"] ++ vx_atS RX7 58 "java/lang/IllegalStateException" ["java/lang/RuntimeException", "java/lang/Exception"] ++ vx_atS RX7 172 "java/lang/IndexOutOfBoundsException" ["java/lang/RuntimeException", "java/lang/Exception"]).filter (fun w => !goodWord w)
/-- links of private members among nest mates -/
def fcNW : List Cond := [.fieldLinkNest "FrameCard" 103 "FrameCard$State" "kept" "LFrameCard$Frames;" "FrameCard", .fieldLinkNest "FrameCard" 116 "FrameCard$State" "ticksEnded" "I" "FrameCard", .fieldLinkNest "FrameCard" 119 "FrameCard$State" "came" "I" "FrameCard", .fieldLinkNest "FrameCard" 122 "FrameCard$Frames" "length" "I" "FrameCard", .fieldLinkNest "FrameCard" 123 "FrameCard$State" "queue" "LFrameCard$Frames;" "FrameCard", .fieldLinkNest "FrameCard" 126 "FrameCard$State" "dropped" "I" "FrameCard", .fieldLinkNest "FrameCard" 129 "FrameCard$State" "lost" "I" "FrameCard", .fieldLinkNest "FrameCard" 132 "FrameCard$State" "late" "I" "FrameCard", .fieldLinkNest "FrameCard" 135 "FrameCard$State" "blocks" "LFrameCard$Blocks;" "FrameCard", .fieldLinkNest "FrameCard" 139 "FrameCard$Blocks" "free" "I" "FrameCard", .fieldLinkNest "FrameCard" 144 "FrameCard$Blocks" "dirty" "I" "FrameCard", .fieldLinkNest "FrameCard" 147 "FrameCard$State" "rounds" "LFrameCard$Rounds;" "FrameCard", .fieldLinkNest "FrameCard" 151 "FrameCard$Rounds" "ended" "I" "FrameCard", .fieldLinkNest "FrameCard" 156 "FrameCard$Rounds" "broken" "I" "FrameCard", .fieldLinkNest "FrameCard" 159 "FrameCard$Blocks" "count" "I" "FrameCard", .fieldLinkNest "FrameCard" 162 "FrameCard$Rounds" "ticksEnded" "I" "FrameCard", .fieldLinkNest "FrameCard" 163 "FrameCard$Rounds" "stored" "I" "FrameCard", .fieldLinkNest "FrameCard" 222 "FrameCard$History" "length" "I" "FrameCard", .fieldLinkNest "FrameCard" 273 "FrameCard$Slot" "state" "LFrameCard$State;" "FrameCard", .fieldLinkNest "FrameCard" 50 "FrameCard$Text" "length" "I" "FrameCard", .fieldLinkNest "FrameCard" 76 "FrameCard$State" "settings" "[I" "FrameCard", .fieldLinkNest "FrameCard" 83 "FrameCard$Slot" "filled" "Z" "FrameCard", .fieldLinkNest "FrameCard$State" 102 "FrameCard$Blocks" "free" "I" "FrameCard", .fieldLinkNest "FrameCard$State" 124 "FrameCard$Rounds" "stored" "I" "FrameCard", .fieldLinkNest "FrameCard$State" 138 "FrameCard$Blocks" "dirty" "I" "FrameCard", .fieldLinkNest "FrameCard$State" 141 "FrameCard$Rounds" "ticksEnded" "I" "FrameCard", .fieldLinkNest "FrameCard$State" 45 "FrameCard" "SETTING_AT_FIRST" "[I" "FrameCard", .fieldLinkNest "FrameCard$State" 55 "FrameCard$Frames" "length" "I" "FrameCard", .fieldLinkNest "FrameCard$State" 83 "FrameCard$Rounds" "came" "I" "FrameCard", .fieldLinkNest "FrameCard$State" 84 "FrameCard$Rounds" "lost" "I" "FrameCard", .fieldLinkNest "FrameCard$Text" 40 "FrameCard" "SETTING_LOWEST" "[I" "FrameCard", .fieldLinkNest "FrameCard$Text" 44 "FrameCard" "SETTING_HIGHEST" "[I" "FrameCard", .methodLinkNest "FrameCard" 11 yX6_init "FrameCard", .methodLinkNest "FrameCard" 35 yX4_init "FrameCard", .methodLinkNest "FrameCard$Frames" 37 yX7_difference "FrameCard", .methodLinkNest "FrameCard$State" 17 yX0_init "FrameCard", .methodLinkNest "FrameCard$State" 36 yX3_init "FrameCard", .methodLinkNest "FrameCard$State" 79 yX7_difference "FrameCard", .methodLinkNest "FrameCard$Text" 33 yX7_digitsBehind "FrameCard"]
def fcDC : Cond → Bool
  | .declares _ => true
  | .castable _ _ => true
  | .fieldLinkNest _ _ _ _ _ _ => true
  | .methodLinkNest _ _ _ _ => true
  | _ => false
theorem fcEW_dc : (fcEW ++ fcNW).all fcDC = true := by decide +kernel
theorem fcNW_on : fcNW.all Cond.onTables = true := by decide +kernel
def fcSt : List (String × Nat × String) := [(RX7, 45, "a character is 0 to 255"), (RX7, 56, "the text is full"), (RX7, 67, "the text is not a card"), (RX7, 166, "what is 0 to 13"), (RX7, 170, "no such kept frame"), (RX7, 176, "what is 0 to 6"), (RX7, 178, "no such waiting frame"), (RX7, 180, "what is 0 to 3"), (RX7, 182, "no such block"), (RX7, 189, "no such broken promise"), (RX7, 191, "what is 0 to 2"), (RX7, 197, "a picture is 0 to 999999"), (RX7, 206, "n is 1 to 50"), (RX7, 208, "a card has 8 to 48 blocks"), (RX7, 217, "no such setting, or not in its range"), (RX7, 223, "no state is remembered"), (RX7, 234, "a change is 0 to 54"), (RX7, 245, "a picture is 0 to 999999, n is 1 to 50"), (RX7, 247, "n is 1 or 2"), (RX7, 251, "a script has at most 7 * n digits"), (RX7, 264, "m is 1 to 99"), (RX7, 271, "a save slot is 0 or 1"), (RX7, 276, "nothing has been saved in it")]
/-- a static row of ints, by its name -/
def fcZ (n : String) (f : Nat → Int32) (A : Nat → Prop) (U : State) (H : Heap) : Prop := ∃ t : Nat, va_Z "FrameCard" n "[I" (.ref t) A U H ∧ va_T .int t 3 (fun j => .int (f j)) A U H
def fcE (A : Nat → Prop) (U : State) (H : Heap) : Prop :=
  (fcZ "SETTING_AT_FIRST" fcS0 A U H ∧ fcZ "SETTING_LOWEST" fcS1 A U H ∧ fcZ "SETTING_HIGHEST" fcS2 A U H) ∧
  (vx_Zq Bundle.tN "UNASSIGNED_STACK" Bundle.steD A U H ∧ vx_Zq Bundle.tN "SUPPRESSED_SENTINEL" Bundle.listD A U H) ∧
  (∀ w ∈ fcEW ++ fcNW, va_Nw w U) ∧ (∀ q ∈ fcSt, ∃ a : Nat, vk_R q.1 q.2.1 q.2.2 a U)
theorem fcZ.go {n : String} {f : Nat → Int32} {A B : Nat → Prop} {s U : State} {H0 H : Heap} (h : fcZ n f A s H0) (hq : ∀ a : Nat, a < H0.size → ¬ A a → H[a]? = H0[a]?) (hW : s.WarmedH U.vm) (hAB : ∀ q, B q → A q) : fcZ n f B U H := by
  obtain ⟨t, h1, h2⟩ := h
  exact ⟨t, ((h1.kept hq).moved hW.alike).narrow hAB, ((h2.kept hq).moved hW.alike).narrow hAB⟩
theorem fcEW_warm {s U : State} (hW : s.WarmedH U.vm) (h : ∀ w ∈ fcEW ++ fcNW, va_Nw w s) : ∀ w ∈ fcEW ++ fcNW, va_Nw w U := by
  intro w hw
  have h1 := List.all_eq_true.mp fcEW_dc w hw
  have h2 := h w hw
  cases w <;> first | exact va_Nw.warmD hW h2 | exact va_Nw.warmC hW h2 | exact va_Nw.warmF hW h2 | exact va_Nw.warmM hW h2 | (simp [fcDC] at h1)
/-- the environment, seen from a callee -/
theorem fcE.go {A B : Nat → Prop} {s U : State} {H0 H : Heap} (h : fcE A s H0) (hq : ∀ a : Nat, a < H0.size → ¬ A a → H[a]? = H0[a]?) (hW : s.WarmedH U.vm) (hAB : ∀ q, B q → A q) : fcE B U H := by
  obtain ⟨⟨z0, z1, z2⟩, ⟨x0, x1⟩, ew, st⟩ := h
  exact ⟨⟨z0.go hq hW hAB, z1.go hq hW hAB, z2.go hq hW hAB⟩, ⟨((x0.kept hq).moved hW.alike).narrow hAB, ((x1.kept hq).moved hW.alike).narrow hAB⟩, fcEW_warm hW ew, fun q hq => by
    obtain ⟨a, h⟩ := st q hq
    exact ⟨a, h.warm hW⟩⟩
theorem fcE.nw {A : Nat → Prop} {s : State} {H0 : Heap} (h : fcE A s H0) (i : Nat) {w : Cond} (hw : fcNW[i]? = some w) (args : Array Value) : w.before args s = true := by
  have hm := List.mem_of_getElem? hw
  exact va_Nw.use (List.all_eq_true.mp fcNW_on w hm) (h.2.2.1 w (List.mem_append_right _ hm))
theorem fcE.nz {A : Nat → Prop} {s : State} {H0 : Heap} (h : fcE A s H0) (i : Nat) {w : Cond} (hw : fcNW[i]? = some w) : va_Nw w s := h.2.2.1 w (List.mem_append_right _ (List.mem_of_getElem? hw))
/-- a method's start: the heap's size, its world, the tables, apart, the environment -/
abbrev fcB (D : va_G) (tc : Nat → ClassId) (ws : va_W) (sz : Nat) (U : State) : Prop := U.heap.size = sz ∧ va_P D vwCl ws U.heap ∧ va_K D vwCl (fcT tc) U ∧ va_D (fun _ => True) ws ∧ fcE (va_A ws sz) U U.heap
/-- .. and the world behind it -/
abbrev fcO (D : va_G) (A : Nat → Prop) (ws : va_W) (t : State) : Prop := va_P D vwCl ws t.heap ∧ va_D A ws
theorem fcB_blind {av : List Value} {D : va_G} {tc : Nat → ClassId} {ws : va_W} {sz : Nat} : FrameBlind (va_Pc av (fcB D tc ws sz)) := by
  intro a U g mk q
  obtain ⟨q0, q1, qP, qK, qD, qE⟩ := q
  exact ⟨q0, q1, qP, va_K.moved (u := U) (U := U.calling g mk a) (Vm.Alike.refl U.vm) qK, qD, qE.go (s := U) (U := U.calling g mk a) (H0 := U.heap) (H := U.heap) (fun _ _ _ => rfl) (State.WarmedH.refl U) (fun _ h => h)⟩
theorem fcB_pre {D : va_G} {tc : Nat → ClassId} {A : Nat → Prop} {wc : va_W} {av : List Value} {s U : State} {H : Heap} {locs : List Loc} (hK : va_K D vwCl (fcT tc) s) (hE : fcE A s s.heap) (hS : va_S A s.heap H locs) (hP : va_P D vwCl wc H) (hD : va_D A wc) (hF : ∀ q, va_A wc H.size q → A q) (hU : U.heap = H) (hW : s.WarmedH U.vm) : va_Pc av (fcB D tc wc H.size) av.toArray U :=
  ⟨rfl, by rw [hU], by rw [hU]; exact hP, va_K.moved hW.alike hK, hD.weaken (fun _ _ _ _ => trivial), by rw [hU]; exact hE.go hS.2.1 hW hF⟩
theorem fc_nd {is : List Nat} {ws w : va_W} (hs : is.map (fun i => ws[i]?) = w.map some) : is.filterMap (fun i => ws[i]?) = w := by
  induction is generalizing w with
  | nil => cases w with
    | nil => rfl
    | cons a b => simp at hs
  | cons i is ih => cases w with
    | nil => simp at hs
    | cons a b =>
      simp only [List.map_cons, List.cons.injEq] at hs
      rw [List.filterMap_cons, hs.1, ih hs.2]
section FCC
variable {p : Program} {l : Launch} {e : Env} {R : Room} {s : State} {m : MethodId} {args : Array Value} {below : List Frame} {meth : Method} {c : Code} {H : Heap} {locs : List Loc} {cells slots : Nat} {Q : State → Prop}
variable {y : MethodName} {bytes cc : ByteArray} {maxL nL mc ms n index pc : Nat} {ret : Option FieldType} {wy : List Cond} {rm : Room} {Ts : List Cond} {own C : String} {b : Addr} {As rest st0 : List Value} {ls : Array Slot}
variable {D : va_G} {tc : Nat → ClassId} {A : Nat → Prop} {ws wc wr : va_W} {isC isR : List Nat} {S : Type} {W1 : S → va_W}
/-- what a call of a virtual method needs -/
theorem fc_runV {Qc : Array Value → State → Outcome → State → Prop} {free : Addr → Prop} (hx : p.tables.exec = Jvm.exec) (hb : c.code = cc) (hml : c.maxLocals = nL) (hown : s.vm.findClass own = some m.cls) (hts : ∀ w ∈ Ts, w.before args s = true) (hK : va_K D vwCl (fcT tc) s) (hE : fcE A s s.heap) (hP : va_P D vwCl ws H) (hD : va_D A ws) (hS : va_S A s.heap H locs) (hA : ∀ q : Nat, s.heap.size ≤ q → A q)
    (hC : isC.map (fun i => ws[i]?) = wc.map some) (hnC : va_nd isC = true)
    (hM : Met l y wy rm (va_Pc (.ref b :: As) (fcB D tc wc H.size)) Qc mc ms free) (cw : CallW R s args own C index y bytes maxL ret wy rm mc ms n)
    {ci : Nat} {q : vw_C} {fs : List Value} (hc : vwCl[ci]? = some q) (he : wc[0]? = some (b, .inr (ci, fs))) (hq : q.1 = C) (hn : As.length = n) (hsize : ls.size = nL) (hst : st0 = As.reverse ++ .ref b :: rest) (hW : (rest.map fun v => v.category).sum ≤ 8)
    (hdg : decode cc pc = .ok (.invokevirtual index, 3)) (hf : cells + mc ≤ R.cells ∧ slots + ms ≤ R.slots) : va_Run p l e R s m args below meth c H locs cells slots mc ms (F0 m pc ls st0) rest (Qc (Value.ref b :: As).toArray) free := by
  have hPc := hP.sub isC (fc_nd hC)
  have hDc := hD.sub isC hnC hC
  have hFc := va_free hD hS hA isC hC
  subst hst
  subst hq
  exact va_runV ⟨hx, hb, hml, hown, hts⟩ hM cw ⟨fcB_blind, va_recv hK hPc hc he, fun U hU hW => fcB_pre hK hE hS hPc hDc hFc hU hW⟩ rfl hn hsize rfl (lv_room hW) hdg hf
theorem fc_runS {Qc : Array Value → State → Outcome → State → Prop} {free : Addr → Prop} (hx : p.tables.exec = Jvm.exec) (hb : c.code = cc) (hml : c.maxLocals = nL) (hown : s.vm.findClass own = some m.cls) (hts : ∀ w ∈ Ts, w.before args s = true) (hK : va_K D vwCl (fcT tc) s) (hE : fcE A s s.heap) (hP : va_P D vwCl ws H) (hD : va_D A ws) (hS : va_S A s.heap H locs) (hA : ∀ q : Nat, s.heap.size ≤ q → A q)
    (hC : isC.map (fun i => ws[i]?) = wc.map some) (hnC : va_nd isC = true)
    (hM : Met l y wy rm (va_Pc As (fcB D tc wc H.size)) Qc mc ms free) (cw : CallB R s args own index y bytes maxL ret wy rm mc ms n ∧ (Cond.static y).before args s = true)
    (hn : As.length = n) (hsize : ls.size = nL) (hst : st0 = As.reverse ++ rest) (hW : (rest.map fun v => v.category).sum ≤ 8)
    (hdg : decode cc pc = .ok (.invokestatic index, 3)) (hf : cells + mc ≤ R.cells ∧ slots + ms ≤ R.slots) : va_Run p l e R s m args below meth c H locs cells slots mc ms (F0 m pc ls st0) rest (Qc As.toArray) free := by
  have hPc := hP.sub isC (fc_nd hC)
  have hDc := hD.sub isC hnC hC
  have hFc := va_free hD hS hA isC hC
  subst hst
  exact va_runS ⟨hx, hb, hml, hown, hts⟩ hM cw ⟨fcB_blind, fun U hU hW => fcB_pre hK hE hS hPc hDc hFc hU hW⟩ rfl hn hsize rfl (lv_room hW) hdg hf
theorem fc_runI {Qc : Array Value → State → Outcome → State → Prop} {free : Addr → Prop} (hx : p.tables.exec = Jvm.exec) (hb : c.code = cc) (hml : c.maxLocals = nL) (hown : s.vm.findClass own = some m.cls) (hts : ∀ w ∈ Ts, w.before args s = true) (hK : va_K D vwCl (fcT tc) s) (hE : fcE A s s.heap) (hP : va_P D vwCl ws H) (hD : va_D A ws) (hS : va_S A s.heap H locs) (hA : ∀ q : Nat, s.heap.size ≤ q → A q)
    (hC : isC.map (fun i => ws[i]?) = wc.map some) (hnC : va_nd isC = true)
    (hM : Met l y wy rm (va_Pc (.ref b :: As) (fcB D tc wc H.size)) Qc mc ms free) (cw : CallB R s args own index y bytes maxL none wy rm mc ms n ∧ y.name = "<init>" ∧ (Cond.instanceMethod y).before args s = true)
    (hn : As.length = n) (hsize : ls.size = nL) (hst : st0 = As.reverse ++ .ref b :: rest) (hW : (rest.map fun v => v.category).sum ≤ 8)
    (hdg : decode cc pc = .ok (.invokespecial index, 3)) (hf : cells + mc ≤ R.cells ∧ slots + ms ≤ R.slots) : va_Run p l e R s m args below meth c H locs cells slots mc ms (F0 m pc ls st0) rest (Qc (Value.ref b :: As).toArray) free := by
  have hPc := hP.sub isC (fc_nd hC)
  have hDc := hD.sub isC hnC hC
  have hFc := va_free hD hS hA isC hC
  subst hst
  exact va_runI ⟨hx, hb, hml, hown, hts⟩ hM cw ⟨fcB_blind, fun U hU hW => fcB_pre hK hE hS hPc hDc hFc hU hW⟩ rfl hn hsize rfl (lv_room hW) hdg hf
theorem fc_runSN {host : String} {Qc : Array Value → State → Outcome → State → Prop} {free : Addr → Prop} (hx : p.tables.exec = Jvm.exec) (hb : c.code = cc) (hml : c.maxLocals = nL) (hown : s.vm.findClass own = some m.cls) (hts : ∀ w ∈ Ts, w.before args s = true) (hK : va_K D vwCl (fcT tc) s) (hE : fcE A s s.heap) (hP : va_P D vwCl ws H) (hD : va_D A ws) (hS : va_S A s.heap H locs) (hA : ∀ q : Nat, s.heap.size ≤ q → A q)
    (hC : isC.map (fun i => ws[i]?) = wc.map some) (hnC : va_nd isC = true)
    (hM : Met l y wy rm (va_Pc As (fcB D tc wc H.size)) Qc mc ms free) (cw : va_CN R s args own index y host bytes maxL ret wy rm mc ms n ∧ (Cond.static y).before args s = true ∧ True)
    (hn : As.length = n) (hsize : ls.size = nL) (hst : st0 = As.reverse ++ rest) (hW : (rest.map fun v => v.category).sum ≤ 8)
    (hdg : decode cc pc = .ok (.invokestatic index, 3)) (hf : cells + mc ≤ R.cells ∧ slots + ms ≤ R.slots) : va_Run p l e R s m args below meth c H locs cells slots mc ms (F0 m pc ls st0) rest (Qc As.toArray) free := by
  have hPc := hP.sub isC (fc_nd hC)
  have hDc := hD.sub isC hnC hC
  have hFc := va_free hD hS hA isC hC
  subst hst
  exact va_runSN ⟨hx, hb, hml, hown, hts⟩ hM cw ⟨fcB_blind, fun U hU hW => fcB_pre hK hE hS hPc hDc hFc hU hW⟩ rfl hn hsize rfl (lv_room hW) hdg hf
theorem fc_runIN {host : String} {Qc : Array Value → State → Outcome → State → Prop} {free : Addr → Prop} (hx : p.tables.exec = Jvm.exec) (hb : c.code = cc) (hml : c.maxLocals = nL) (hown : s.vm.findClass own = some m.cls) (hts : ∀ w ∈ Ts, w.before args s = true) (hK : va_K D vwCl (fcT tc) s) (hE : fcE A s s.heap) (hP : va_P D vwCl ws H) (hD : va_D A ws) (hS : va_S A s.heap H locs) (hA : ∀ q : Nat, s.heap.size ≤ q → A q)
    (hC : isC.map (fun i => ws[i]?) = wc.map some) (hnC : va_nd isC = true)
    (hM : Met l y wy rm (va_Pc (.ref b :: As) (fcB D tc wc H.size)) Qc mc ms free) (cw : va_CN R s args own index y host bytes maxL none wy rm mc ms n ∧ y.name = "<init>" ∧ (Cond.instanceMethod y).before args s = true)
    (hn : As.length = n) (hsize : ls.size = nL) (hst : st0 = As.reverse ++ .ref b :: rest) (hW : (rest.map fun v => v.category).sum ≤ 8)
    (hdg : decode cc pc = .ok (.invokespecial index, 3)) (hf : cells + mc ≤ R.cells ∧ slots + ms ≤ R.slots) : va_Run p l e R s m args below meth c H locs cells slots mc ms (F0 m pc ls st0) rest (Qc (Value.ref b :: As).toArray) free := by
  have hPc := hP.sub isC (fc_nd hC)
  have hDc := hD.sub isC hnC hC
  have hFc := va_free hD hS hA isC hC
  subst hst
  exact va_runIN ⟨hx, hb, hml, hown, hts⟩ hM cw ⟨fcB_blind, fun U hU hW => fcB_pre hK hE hS hPc hDc hFc hU hW⟩ rfl hn hsize rfl (lv_room hW) hdg hf
/-- .. and what holds behind it: an int -/
theorem fc_goi {post : Int32 → S → Prop} {a : Array Value} (hP : va_P D vwCl ws H) (hD : va_D A ws) (hS : va_S A s.heap H locs) (hA : ∀ q : Nat, s.heap.size ≤ q → A q) (hC : isC.map (fun i => ws[i]?) = wc.map some) (hR : isR.map (fun i => ws[i]?) = wr.map some) (hnR : va_nd isR = true) (hdis : ∀ i ∈ isR, i ∉ isC)
    (hr : va_Run p l e R s m args below meth c H locs cells slots mc ms (F0 m pc ls st0) rest (va_Qi post (fun u t => fcO D (va_A wc H.size) (W1 u) t) (va_A wc H.size) a) (va_A wc H.size))
    (kk : ∀ (r : Int32) (u : S) (H1 : Heap) (locs1 : List Loc), post r u → va_P D vwCl (wr ++ W1 u) H1 → va_D A (wr ++ W1 u) → va_S A s.heap H1 locs1 → W p l e R s m args below meth c H1 locs1 (cells + mc) (slots + ms) Q (F0 m (pc + 3) ls (.int r :: rest))) : W p l e R s m args below meth c H locs cells slots Q (F0 m pc ls st0) := by
  have hFc := va_free hD hS hA isC hC
  refine va_calli hr hS (fun q _ h => hFc q h) hFc (fun r u t H1 locs1 ht hvm hw hB hz1 hk1 hS1 => ?_)
  obtain ⟨hP1, hD1⟩ := hB
  rw [ht] at hP1
  obtain ⟨hP2, hD2⟩ := va_join hP hD isC isR hC hR hnR hdis hk1 hFc hP1 hD1
  exact kk r u H1 locs1 hw hP2 hD2 hS1
theorem fc_gol {post : Int64 → S → Prop} {a : Array Value} (hP : va_P D vwCl ws H) (hD : va_D A ws) (hS : va_S A s.heap H locs) (hA : ∀ q : Nat, s.heap.size ≤ q → A q) (hC : isC.map (fun i => ws[i]?) = wc.map some) (hR : isR.map (fun i => ws[i]?) = wr.map some) (hnR : va_nd isR = true) (hdis : ∀ i ∈ isR, i ∉ isC)
    (hr : va_Run p l e R s m args below meth c H locs cells slots mc ms (F0 m pc ls st0) rest (va_Ql post (fun u t => fcO D (va_A wc H.size) (W1 u) t) (va_A wc H.size) a) (va_A wc H.size))
    (kk : ∀ (r : Int64) (u : S) (H1 : Heap) (locs1 : List Loc), post r u → va_P D vwCl (wr ++ W1 u) H1 → va_D A (wr ++ W1 u) → va_S A s.heap H1 locs1 → W p l e R s m args below meth c H1 locs1 (cells + mc) (slots + ms) Q (F0 m (pc + 3) ls (.long r :: rest))) : W p l e R s m args below meth c H locs cells slots Q (F0 m pc ls st0) := by
  have hFc := va_free hD hS hA isC hC
  refine va_calll hr hS (fun q _ h => hFc q h) hFc (fun r u t H1 locs1 ht hvm hw hB hz1 hk1 hS1 => ?_)
  obtain ⟨hP1, hD1⟩ := hB
  rw [ht] at hP1
  obtain ⟨hP2, hD2⟩ := va_join hP hD isC isR hC hR hnR hdis hk1 hFc hP1 hD1
  exact kk r u H1 locs1 hw hP2 hD2 hS1
theorem fc_gov {post : S → Prop} {a : Array Value} (hP : va_P D vwCl ws H) (hD : va_D A ws) (hS : va_S A s.heap H locs) (hA : ∀ q : Nat, s.heap.size ≤ q → A q) (hC : isC.map (fun i => ws[i]?) = wc.map some) (hR : isR.map (fun i => ws[i]?) = wr.map some) (hnR : va_nd isR = true) (hdis : ∀ i ∈ isR, i ∉ isC)
    (hr : va_Run p l e R s m args below meth c H locs cells slots mc ms (F0 m pc ls st0) rest (va_Qv post (fun u t => fcO D (va_A wc H.size) (W1 u) t) (va_A wc H.size) a) (va_A wc H.size))
    (kk : ∀ (u : S) (H1 : Heap) (locs1 : List Loc), post u → va_P D vwCl (wr ++ W1 u) H1 → va_D A (wr ++ W1 u) → va_S A s.heap H1 locs1 → W p l e R s m args below meth c H1 locs1 (cells + mc) (slots + ms) Q (F0 m (pc + 3) ls rest)) : W p l e R s m args below meth c H locs cells slots Q (F0 m pc ls st0) := by
  have hFc := va_free hD hS hA isC hC
  refine va_callv hr hS (fun q _ h => hFc q h) hFc (fun u t H1 locs1 ht hvm hw hB hz1 hk1 hS1 => ?_)
  obtain ⟨hP1, hD1⟩ := hB
  rw [ht] at hP1
  obtain ⟨hP2, hD2⟩ := va_join hP hD isC isR hC hR hnR hdis hk1 hFc hP1 hD1
  exact kk u H1 locs1 hw hP2 hD2 hS1
theorem fc_goq {post : Option Nat → S → Prop} {a : Array Value} (hP : va_P D vwCl ws H) (hD : va_D A ws) (hS : va_S A s.heap H locs) (hA : ∀ q : Nat, s.heap.size ≤ q → A q) (hC : isC.map (fun i => ws[i]?) = wc.map some) (hR : isR.map (fun i => ws[i]?) = wr.map some) (hnR : va_nd isR = true) (hdis : ∀ i ∈ isR, i ∉ isC)
    (hr : va_Run p l e R s m args below meth c H locs cells slots mc ms (F0 m pc ls st0) rest (va_Qq post (fun u t => fcO D (va_A wc H.size) (W1 u) t) (va_A wc H.size) a) (va_A wc H.size))
    (kk : ∀ (r : Option Nat) (u : S) (H1 : Heap) (locs1 : List Loc), post r u → va_P D vwCl (wr ++ W1 u) H1 → va_D A (wr ++ W1 u) → va_S A s.heap H1 locs1 → W p l e R s m args below meth c H1 locs1 (cells + mc) (slots + ms) Q (F0 m (pc + 3) ls (va_rf r :: rest))) : W p l e R s m args below meth c H locs cells slots Q (F0 m pc ls st0) := by
  have hFc := va_free hD hS hA isC hC
  refine va_callq hr hS (fun q _ h => hFc q h) hFc (fun r u t H1 locs1 ht hvm hw hB hz1 hk1 hS1 => ?_)
  obtain ⟨hP1, hD1⟩ := hB
  rw [ht] at hP1
  obtain ⟨hP2, hD2⟩ := va_join hP hD isC isR hC hR hnR hdis hk1 hFc hP1 hD1
  exact kk r u H1 locs1 hw hP2 hD2 hS1
end FCC
/-! numbers -/
theorem fc_lt {a b : Int32} : a < b ↔ a.toInt < b.toInt := Int32.lt_iff_toInt_lt
theorem fc_le {a b : Int32} : a ≤ b ↔ a.toInt ≤ b.toInt := Int32.le_iff_toInt_le
theorem fc_eq {a b : Int32} : a = b ↔ a.toInt = b.toInt := ⟨fun h => by rw [h], fun h => Int32.toInt_inj.mp h⟩
theorem fc_cl {x : Int32} : x.toNatClampNeg = x.toInt.toNat := rfl
theorem fc_rng (x : Int32) : -2147483648 ≤ x.toInt ∧ x.toInt < 2147483648 := ⟨Int32.le_toInt x, Int32.toInt_lt x⟩
theorem fc_bmod {z : Int} (h1 : -2147483648 ≤ z) (h2 : z < 2147483648) : z.bmod (2 ^ 32) = z := by
  rw [Int.bmod_def]
  omega
theorem fc_add {x y : Int32} (h1 : -2147483648 ≤ x.toInt + y.toInt) (h2 : x.toInt + y.toInt < 2147483648) : (x + y).toInt = x.toInt + y.toInt := by
  rw [Int32.toInt_add]; exact fc_bmod h1 h2
theorem fc_sub {x y : Int32} (h1 : -2147483648 ≤ x.toInt - y.toInt) (h2 : x.toInt - y.toInt < 2147483648) : (x - y).toInt = x.toInt - y.toInt := by
  rw [Int32.toInt_sub]; exact fc_bmod h1 h2
theorem fc_mul {x y : Int32} (h1 : -2147483648 ≤ x.toInt * y.toInt) (h2 : x.toInt * y.toInt < 2147483648) : (x * y).toInt = x.toInt * y.toInt := by
  rw [Int32.toInt_mul]; exact fc_bmod h1 h2
theorem fc_nI {n : Nat} (h : n < 2147483648) : (nI n).toInt = (n : Int) := nI_toInt h
