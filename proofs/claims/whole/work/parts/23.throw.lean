/-! Methods of the class that return an int or throw: the shape of their contracts, and the throw. -/
def fxE : Nat → String := fun x => match x with
  | 0 => "java/lang/IllegalArgumentException"
  | 1 => "java/lang/IllegalStateException"
  | _ => "java/lang/IndexOutOfBoundsException"
def fxK : Nat → Nat := fun x => match x with
  | 0 => 43
  | 1 => 54
  | _ => 168
def fxC : Nat → Nat := fun x => match x with
  | 0 => 47
  | 1 => 58
  | _ => 172
def fxN : List String := ["java/lang/RuntimeException", "java/lang/Exception"]
theorem fx_bad {x : Nat} (hx : x < 3) : ∀ w ∈ (vx_atS RX7 (fxC x) (fxE x) fxN).filter (fun w => !goodWord w), w ∈ fcEW := by
  intro w hw
  obtain ⟨h1, h2⟩ := List.mem_filter.mp hw
  refine List.mem_filter.mpr ⟨?_, h2⟩
  match x, hx with
  | 0, _ => exact List.mem_append_left _ (List.mem_append_left _ h1)
  | 1, _ => exact List.mem_append_left _ (List.mem_append_right _ h1)
  | 2, _ => exact List.mem_append_right _ h1
theorem fx_ot0 : (Cond.classLink RX7 43 "java/lang/IllegalArgumentException" :: Cond.initialized "java/lang/IllegalArgumentException" :: vx_atS RX7 47 "java/lang/IllegalArgumentException" fxN).all vx_ot = true := by decide +kernel
theorem fx_ot1 : (Cond.classLink RX7 54 "java/lang/IllegalStateException" :: Cond.initialized "java/lang/IllegalStateException" :: vx_atS RX7 58 "java/lang/IllegalStateException" fxN).all vx_ot = true := by decide +kernel
theorem fx_ot2 : (Cond.classLink RX7 168 "java/lang/IndexOutOfBoundsException" :: Cond.initialized "java/lang/IndexOutOfBoundsException" :: vx_atS RX7 172 "java/lang/IndexOutOfBoundsException" fxN).all vx_ot = true := by decide +kernel
theorem fx_ot {x : Nat} (hx : x < 3) : ∀ w ∈ Cond.classLink RX7 (fxK x) (fxE x) :: Cond.initialized (fxE x) :: vx_atS RX7 (fxC x) (fxE x) fxN, vx_ot w = true := by
  match x, hx with
  | 0, _ => exact List.all_eq_true.mp fx_ot0
  | 1, _ => exact List.all_eq_true.mp fx_ot1
  | 2, _ => exact List.all_eq_true.mp fx_ot2
theorem fx_fit {x : Nat} (hx : x < 3) : Bundle.fit (fxE x) = true := by
  match x, hx with
  | 0, _ => decide +kernel
  | 1, _ => decide +kernel
  | 2, _ => decide +kernel
theorem fx_fitN : ∀ n ∈ fxN, Bundle.fit n = true := by
  intro n hn
  simp only [fxN, List.mem_cons, List.not_mem_nil, or_false] at hn
  rcases hn with rfl | rfl <;> decide +kernel
/-- the words of the throw of kind x that a method has of its own -/
def fxOwn (x : Nat) (Ts : List Cond) : Prop := Cond.classLink RX7 (fxK x) (fxE x) ∈ Ts ∧ Cond.initialized (fxE x) ∈ Ts ∧ ∀ w ∈ (vx_atS RX7 (fxC x) (fxE x) fxN).filter goodWord, w ∈ Ts
/-- what a throw leaves: nothing has changed -/
abbrev fxX (D : va_G) (ws : va_W) (sz : Nat) (ex : String → Prop) : String → State → State → Prop := vx_X (S := Unit) (fun _ => True) (fun E _ t => ex E ∧ fcO D (va_A ws sz) ws t) (va_A ws sz)
theorem fc_ofX {l : Launch} {y : MethodName} {wsy ws' : List Cond} {rm : Room} {cc : ByteArray} {maxL : Nat} {D : va_G} {tc : Nat → ClassId} {av : List Value} {W0 : va_W} {sz : Nat} {S : Type} {post : Int32 → S → Prop} {W1 : S → va_W} {mc ms : Nat} {ex : String → Prop} (hl : l.stackTraces = false) (hcls : y.cls = RX7) (hy : plainName y.cls = true) (hw : wsy = Cond.code y cc maxL (some .int) :: ws') (hav : (lg_sl av).length ≤ maxL) (hmc : 1 ≤ mc ∧ 6 ≤ ms ∧ 1 ≤ rm.cells ∧ 6 ≤ rm.slots ∧ 6 ≤ rm.frames ∧ 90 ≤ rm.locals)
    (body : ∀ (p : Program) (e : Env) (s : State) (m : MethodId) (args : Array Value) (below : List Frame) (meth : Method) (c : Code) (A : Nat → Prop) (Q : State → Prop), p.tables.exec = Jvm.exec → c.code = cc → c.maxLocals = maxL → s.vm.findClass RX7 = some m.cls → (∀ w ∈ wsy, w.before args s = true) → va_K D vwCl (fcT tc) s → fcE A s s.heap → va_P D vwCl W0 s.heap → va_D A W0 → va_S A s.heap s.heap [] → (∀ q : Nat, s.heap.size ≤ q → A q) →
      (∀ (H : Heap) (locs : List Loc) (r : Int32) (u : S) (ls : Array Slot) (pc : Nat), post r u → va_P D vwCl (W1 u) H → va_D A (W1 u) → va_S A s.heap H locs → decode cc pc = .ok (.ireturn, 1) → W p l e rm s m args below meth c H locs mc ms Q (F0 m pc ls [.int r])) →
      (∀ (x is : Nat) (text : String) (H : Heap) (locs : List Loc) (ls : Array Slot) (pc : Nat), x < 3 → (RX7, is, text) ∈ fcSt → fxOwn x wsy → ex (fxE x) → va_P D vwCl W0 H → va_D A W0 → va_S A s.heap H locs → ls.size = maxL → decode cc pc = .ok (.new (fxK x), 3) → decode cc (pc + 3) = .ok (.dup, 1) →
        ((decode cc (pc + 4) = .ok (.ldc is, 2) ∧ decode cc (pc + 6) = .ok (.invokespecial (fxC x), 3) ∧ decode cc (pc + 9) = .ok (.athrow, 1)) ∨ (decode cc (pc + 4) = .ok (.ldc_w is, 3) ∧ decode cc (pc + 7) = .ok (.invokespecial (fxC x), 3) ∧ decode cc (pc + 10) = .ok (.athrow, 1))) → W p l e rm s m args below meth c H locs 0 0 Q (F0 m pc ls [])) →
      ∀ ls : Array Slot, lv_has ls maxL (lv_args 0 av) → W p l e rm s m args below meth c s.heap [] 0 0 Q (F0 m 0 ls [])) :
    vx_Met l y wsy rm (va_Pc av (fcB D tc W0 sz)) (va_Qi post (fun u t => fcO D (va_A W0 sz) (W1 u) t) (va_A W0 sz)) (fxX D W0 sz ex) mc ms (va_A W0 sz) := by
  refine vx_ofW (cc := cc) (maxL := maxL) (ret := (some .int)) hy hw ?_
  intro p e s m args below meth c s₁ B hml hno hv
  obtain ⟨rfl, hsz, hP, hK, hD0, hE⟩ := hv
  subst hsz
  have hr := B.returns
  have hlocks := B.notSynchronized
  have hown : s.vm.findClass RX7 = some m.cls := by rw [← hcls]; exact findClass_of_methodNamed B.named
  have hts := atoms_spec (ws := wsy) B.pre
  rw [lg_entry_eq]
  refine body p e s m _ below meth c (va_A W0 s.heap.size) _ B.exec B.bytes hml hown hts hK hE hP hD0.self va_S.rf (fun q h => Or.inr h) ?_ ?_ _ (lv_entry av hav)
  · intro H locs r u ls pc hp hP1 hD1 hS hdg
    exact vx_ret (W.iret B.exec B.bytes hr (fun t ht hW => ⟨⟨r, u, rfl, hp, by rw [ht]; exact hP1, hD1⟩, hS.F ht⟩) hS.2.2 hdg)
  · intro x is text H locs ls pc hx hst hfx hex hP1 hD1 hS hsz hd0 hd3 hd
    obtain ⟨sa, hsa⟩ := hE.2.2.2 (RX7, is, text) hst
    have hat : ∀ w ∈ vx_atS RX7 (fxC x) (fxE x) fxN, w.before av.toArray s = true := vx_hat (B := fcEW) (fun w h => hts w (hfx.2.2 w h)) (fx_bad hx) (fun w h => by
      have h1 := List.all_eq_true.mp fcEW_dc w (List.mem_append_left _ h)
      have h2 := hE.2.2.1 w (List.mem_append_left _ h)
      cases w <;> first | exact va_Nw.use rfl h2 | (simp [fcDC] at h1))
    have hfin : ∀ t : State, s.vm.Alike t.vm → H.size ≤ t.heap.size → (∀ q : Nat, q < H.size → t.heap[q]? = H[q]?) → fxX D W0 s.heap.size ex (fxE x) s t := by
      intro t _ hsz2 ho
      refine ⟨(), trivial, ⟨hex, hP1.kept (fun k q hk => ho q.1 ((hP1 k q hk).lt)), hD1⟩, Nat.le_trans hS.1 hsz2, fun q h1 h2 => ?_⟩
      rw [ho q (Nat.lt_of_lt_of_le h1 hS.1)]
      exact hS.2.1 q h1 h2
    rcases hd with ⟨d4, d6, d9⟩ | ⟨d4, d6, d9⟩
    · exact vx_throwS (names := fxN) (ik := fxK x) (is := is) (ic := fxC x) B.exec B.bytes hl hown (fx_fit hx) fx_fitN (hts _ hfx.1) (hts _ hfx.2.1) hsa hat (fx_ot hx) hE.2.1.1 hE.2.1.2 hS (hsz.trans hml.symm) hd0 hd3 d4 d6 d9 (fun x hx => (hno x hx).elim) (by show 2 + 3 < rm.frames; omega) (by show 0 + (13 * (2 + 1) + 43) ≤ rm.locals; omega) (by show 0 + 1 ≤ rm.cells; omega) (by show 0 + 6 ≤ rm.slots; omega) hlocks hfin hS.2.2 (by omega) (by omega)
    · exact vx_throwSW (names := fxN) (ik := fxK x) (is := is) (ic := fxC x) B.exec B.bytes hl hown (fx_fit hx) fx_fitN (hts _ hfx.1) (hts _ hfx.2.1) hsa hat (fx_ot hx) hE.2.1.1 hE.2.1.2 hS (hsz.trans hml.symm) hd0 hd3 d4 d6 d9 (fun x hx => (hno x hx).elim) (by show 2 + 3 < rm.frames; omega) (by show 0 + (13 * (2 + 1) + 43) ≤ rm.locals; omega) (by show 0 + 1 ≤ rm.cells; omega) (by show 0 + 6 ≤ rm.slots; omega) hlocks hfin hS.2.2 (by omega) (by omega)
