/-! Calls that may throw, and are caught: the shape of the law's wrappers -/
/-- what is known of the exceptions' classes: each is itself, none is another -/
def fcCat (U : State) : Prop := (va_Nw (.castable (fxE 0) (fxE 0)) U ∧ va_Nw (.castable (fxE 1) (fxE 1)) U ∧ va_Nw (.castable (fxE 2) (fxE 2)) U) ∧ va_Nc (fxE 1) (fxE 0) U ∧ va_Nc (fxE 0) (fxE 2) U ∧ va_Nc (fxE 1) (fxE 2) U
theorem fcCat.moved {u U : State} (hvm : u.vm.Alike U.vm) (hW : u.WarmedH U.vm) (h : fcCat u) : fcCat U :=
  ⟨⟨va_Nw.warmC hW h.1.1, va_Nw.warmC hW h.1.2.1, va_Nw.warmC hW h.1.2.2⟩, h.2.1.moved hvm, h.2.2.1.moved hvm, h.2.2.2.moved hvm⟩
abbrev fcB3 (D : va_G) (tc : Nat → ClassId) (ws : va_W) (sz : Nat) (U : State) : Prop := fcB D tc ws sz U ∧ fcCat U
theorem fcB3_blind {av : List Value} {D : va_G} {tc : Nat → ClassId} {ws : va_W} {sz : Nat} : FrameBlind (va_Pc av (fcB3 D tc ws sz)) := by
  intro a U g mk q
  obtain ⟨q0, q1, q2⟩ := q
  have h := fcB_blind (av := av) (D := D) (tc := tc) (ws := ws) (sz := sz) a U g mk ⟨q0, q1⟩
  exact ⟨h.1, h.2, fcCat.moved (u := U) (U := U.calling g mk a) (Vm.Alike.refl U.vm) (State.WarmedH.refl U) q2⟩
theorem fx_MetWH {l : Launch} {y : MethodName} {ws ws' : List Cond} {rm : Room} {Pc : Array Value → State → Prop} {Qc : Array Value → State → Outcome → State → Prop} {mc ms : Nat} {free : Addr → Prop} {cc : ByteArray} {maxL : Nat} {ret : Option FieldType} {hh : List (Nat × Nat × Nat × Nat)}
    (hy : plainName y.cls = true) (hw : ws = Cond.codeWith y cc maxL ret hh :: ws')
    (body : ∀ p e s m args below meth c s₁, BodyLoose p l y (headSpec ws rm) cc maxL ret e s m args below meth c s₁ → c.maxLocals = maxL → Pc args s →
      W p l e (headSpec ws rm).room s m args below meth c s.heap [] 0 0 (MQ below Qc args s mc ms free) (entryFrame m args maxL)) : Met l y ws rm Pc Qc mc ms free := by
  refine MetFree.of_bodyS (code := cc) (maxLocals := maxL) (ret := ret) hy ?_ ?_
  · intro args s m h hn
    obtain ⟨m9, meth, c, hn9, h1, h2, h3, h4, -, h5, h6, -⟩ := Cond.codeWith_spec (atoms_spec (ws := ws) h _ (by rw [hw]; exact List.mem_cons_self))
    cases hn.symm.trans hn9
    exact ⟨meth, c, h1, h2, h3, h4, h5, h6⟩
  · intro p e s m args below meth c s₁ B hml hP _
    have hh0 : s₁.heap = s.heap := by rw [B.state]; rfl
    obtain ⟨t, a1, o, b1, b2, b3⟩ := body p e s m args below meth c s₁ B hml hP s₁ hh0 (Stand.of_body B)
    exact ⟨t, o, a1, b1, b2, ⟨b3.1, b3.2⟩⟩
theorem fc_ofHi {l : Launch} {y : MethodName} {wsy ws' : List Cond} {rm : Room} {cc : ByteArray} {maxL : Nat} {D : va_G} {tc : Nat → ClassId} {av : List Value} {W0 : va_W} {sz : Nat} {S : Type} {post : Int32 → S → Prop} {W1 : S → va_W} {mc ms : Nat} {hh : List (Nat × Nat × Nat × Nat)} (own : String) (hcls : y.cls = own) (hy : plainName y.cls = true) (hw : wsy = Cond.codeWith y cc maxL (some .int) hh :: ws') (hav : (lg_sl av).length ≤ maxL)
    (body : ∀ (p : Program) (e : Env) (s : State) (m : MethodId) (args : Array Value) (below : List Frame) (meth : Method) (c : Code) (A : Nat → Prop) (Q : State → Prop), p.tables.exec = Jvm.exec → c.code = cc → c.maxLocals = maxL → s.vm.findClass own = some m.cls → (∀ w ∈ wsy, w.before args s = true) → va_K D vwCl (fcT tc) s → fcE A s s.heap → va_P D vwCl W0 s.heap → va_D A W0 → va_S A s.heap s.heap [] → (∀ q : Nat, s.heap.size ≤ q → A q) → fcCat s → c.exceptionTable.toList = tableOf hh →
      (∀ (H : Heap) (locs : List Loc) (r : Int32) (u : S) (ls : Array Slot) (pc : Nat), post r u → va_P D vwCl (W1 u) H → va_D A (W1 u) → va_S A s.heap H locs → decode cc pc = .ok (.ireturn, 1) → W p l e rm s m args below meth c H locs mc ms Q (F0 m pc ls [.int r])) →
      ∀ ls : Array Slot, lv_has ls maxL (lv_args 0 av) → W p l e rm s m args below meth c s.heap [] 0 0 Q (F0 m 0 ls [])) :
    Met l y wsy rm (va_Pc av (fcB3 D tc W0 sz)) (va_Qi post (fun u t => fcO D (va_A W0 sz) (W1 u) t) (va_A W0 sz)) mc ms (va_A W0 sz) := by
  refine fx_MetWH (cc := cc) (hh := hh) (maxL := maxL) (ret := (some .int)) hy hw ?_
  intro p e s m args below meth c s₁ B hml hv
  obtain ⟨rfl, ⟨hsz, hP, hK, hD0, hE⟩, hCat⟩ := hv
  subst hsz
  subst hcls
  have hr := B.returns
  have hlocks := B.notSynchronized
  rw [lg_entry_eq]
  refine body p e s m _ below meth c (va_A W0 s.heap.size) _ B.exec B.bytes hml (findClass_of_methodNamed B.named) (atoms_spec (ws := wsy) B.pre) hK hE hP hD0.self va_S.rf (fun q h => Or.inr h) hCat (vx_table (x := y) B (atoms_spec (ws := wsy) B.pre _ (by rw [hw]; exact List.mem_cons_self))) ?_ _ (lv_entry av hav)
  intro H locs r u ls pc hp hP1 hD1 hS hdg
  exact W.iret B.exec B.bytes hr (fun t ht hW => ⟨⟨r, u, rfl, hp, by rw [ht]; exact hP1, hD1⟩, hS.F ht⟩) hS.2.2 hdg
section FCX
variable {p : Program} {l : Launch} {e : Env} {R : Room} {s : State} {m : MethodId} {args : Array Value} {below : List Frame} {meth : Method} {c : Code} {H : Heap} {locs : List Loc} {cells slots : Nat} {Q : State → Prop}
variable {y : MethodName} {bytes cc : ByteArray} {maxL nL mc ms n index pc : Nat} {ret : Option FieldType} {wy : List Cond} {rm : Room} {Ts : List Cond} {own C : String} {b : Addr} {As rest st0 : List Value} {ls : Array Slot}
variable {D : va_G} {tc : Nat → ClassId} {A : Nat → Prop} {ws wc wr : va_W} {isC isR : List Nat} {S : Type} {W1 : S → va_W}
theorem fc_runX {Qc : Array Value → State → Outcome → State → Prop} {XC : String → State → State → Prop} {free : Addr → Prop} (hx : p.tables.exec = Jvm.exec) (hb : c.code = cc) (hml : c.maxLocals = nL) (hown : s.vm.findClass own = some m.cls) (hts : ∀ w ∈ Ts, w.before args s = true) (hK : va_K D vwCl (fcT tc) s) (hE : fcE A s s.heap) (hP : va_P D vwCl ws H) (hD : va_D A ws) (hS : va_S A s.heap H locs) (hA : ∀ q : Nat, s.heap.size ≤ q → A q)
    (hC : isC.map (fun i => ws[i]?) = wc.map some) (hnC : va_nd isC = true)
    (hM : vx_Met l y wy rm (va_Pc (.ref b :: As) (fcB D tc wc H.size)) Qc XC mc ms free) (cw : CallW R s args own C index y bytes maxL ret wy rm mc ms n)
    {ci : Nat} {q : vw_C} {fs : List Value} (hc : vwCl[ci]? = some q) (he : wc[0]? = some (b, .inr (ci, fs))) (hq : q.1 = C) (hn : As.length = n) (hsize : ls.size = nL) (hst : st0 = As.reverse ++ .ref b :: rest) (hW : (rest.map fun v => v.category).sum ≤ 8)
    (hdg : decode cc pc = .ok (.invokevirtual index, 3)) (hf : cells + mc ≤ R.cells ∧ slots + ms ≤ R.slots) : vx_Run p l e R s m args below meth c H locs cells slots mc ms (F0 m pc ls st0) rest (Qc (Value.ref b :: As).toArray) XC free := by
  have hPc := hP.sub isC (fc_nd hC)
  have hDc := hD.sub isC hnC hC
  have hFc := va_free hD hS hA isC hC
  subst hst
  subst hq
  exact vx_runV ⟨hx, hb, hml, hown, hts⟩ hM cw ⟨fcB_blind, va_recv hK hPc hc he, fun U hU hW => fcB_pre hK hE hS hPc hDc hFc hU hW⟩ rfl hn hsize rfl (lv_room hW) hdg hf
theorem fc_goX {ex : String → Prop} {post : Int32 → S → Prop} {a : Array Value} (hP : va_P D vwCl ws H) (hD : va_D A ws) (hS : va_S A s.heap H locs) (hA : ∀ q : Nat, s.heap.size ≤ q → A q) (hC : isC.map (fun i => ws[i]?) = wc.map some) (hR : isR.map (fun i => ws[i]?) = wr.map some) (hnR : va_nd isR = true) (hdis : ∀ i ∈ isR, i ∉ isC)
    (hr : vx_Run p l e R s m args below meth c H locs cells slots mc ms (F0 m pc ls st0) rest (va_Qi post (fun u t => fcO D (va_A wc H.size) (W1 u) t) (va_A wc H.size) a) (fxX D wc H.size ex) (va_A wc H.size))
    (kx : ∀ (E : String) (ce : Cell) (q9 : Addr) (H1 : Heap) (locs1 : List Loc), ex E → va_P D vwCl (wr ++ wc) H1 → va_D A (wr ++ wc) → va_S A s.heap H1 locs1 → H1[q9]? = some ce → ce.vm = .none → s.vm.findClass E = some ce.cls → vx_W p l e R s m args below meth c H1 locs1 (cells + mc) (slots + ms) Q (F0 m pc ls rest) q9)
    (kk : ∀ (r : Int32) (u : S) (H1 : Heap) (locs1 : List Loc), post r u → va_P D vwCl (wr ++ W1 u) H1 → va_D A (wr ++ W1 u) → va_S A s.heap H1 locs1 → W p l e R s m args below meth c H1 locs1 (cells + mc) (slots + ms) Q (F0 m (pc + 3) ls (.int r :: rest))) : W p l e R s m args below meth c H locs cells slots Q (F0 m pc ls st0) := by
  have hFc := va_free hD hS hA isC hC
  refine vx_calli hr hS (fun q _ h => hFc q h) hFc (fun q _ h => hFc q h) (fun E ce q9 u t H1 locs1 ht hvm _ hB hz1 hk1 hS1 hc1 hc2 hc3 => ?_) (fun r u t H1 locs1 ht hvm hw hB hz1 hk1 hS1 => ?_)
  · obtain ⟨hex, hP1, hD1⟩ := hB
    rw [ht] at hP1
    obtain ⟨hP2, hD2⟩ := va_join hP hD isC isR hC hR hnR hdis hk1 hFc hP1 hD1
    exact kx E ce q9 H1 locs1 hex hP2 hD2 hS1 hc1 hc2 hc3
  · obtain ⟨hP1, hD1⟩ := hB
    rw [ht] at hP1
    obtain ⟨hP2, hD2⟩ := va_join hP hD isC isR hC hR hnR hdis hk1 hFc hP1 hD1
    exact kk r u H1 locs1 hw hP2 hD2 hS1
theorem fc_runH {Qc : Array Value → State → Outcome → State → Prop} {free : Addr → Prop} (hx : p.tables.exec = Jvm.exec) (hb : c.code = cc) (hml : c.maxLocals = nL) (hown : s.vm.findClass own = some m.cls) (hts : ∀ w ∈ Ts, w.before args s = true) (hK : va_K D vwCl (fcT tc) s) (hE : fcE A s s.heap) (hP : va_P D vwCl ws H) (hD : va_D A ws) (hS : va_S A s.heap H locs) (hA : ∀ q : Nat, s.heap.size ≤ q → A q)
    (hC : isC.map (fun i => ws[i]?) = wc.map some) (hnC : va_nd isC = true)
    (hM : Met l y wy rm (va_Pc As (fcB3 D tc wc H.size)) Qc mc ms free) (hCat : fcCat s) {hh : List (Nat × Nat × Nat × Nat)} (cw : vx_CSW R s args own index y bytes maxL ret hh wy rm mc ms n)
    (hn : As.length = n) (hsize : ls.size = nL) (hst : st0 = As.reverse ++ rest) (hW : (rest.map fun v => v.category).sum ≤ 8)
    (hdg : decode cc pc = .ok (.invokestatic index, 3)) (hf : cells + mc ≤ R.cells ∧ slots + ms ≤ R.slots) : va_Run p l e R s m args below meth c H locs cells slots mc ms (F0 m pc ls st0) rest (Qc As.toArray) free := by
  have hPc := hP.sub isC (fc_nd hC)
  have hDc := hD.sub isC hnC hC
  have hFc := va_free hD hS hA isC hC
  subst hst
  exact vx_runSW ⟨hx, hb, hml, hown, hts⟩ hM cw ⟨fcB3_blind, fun U hU hW => ⟨(fcB_pre (av := As) hK hE hS hPc hDc hFc hU hW).1, (fcB_pre (av := As) hK hE hS hPc hDc hFc hU hW).2, fcCat.moved hW.alike hW hCat⟩⟩ rfl hn hsize rfl (lv_room hW) hdg hf
end FCX
