/-! a new row of a known kind; a copy out of a static row of ints -/
theorem fc_RAinj {U : State} {a b : ClassId} {ty : FieldType} (h1 : va_RA U a ty) (h2 : va_RA U b ty) : a = b := by
  cases ty with
  | object C =>
    obtain ⟨_, _, _, _, _, e1⟩ := h1
    obtain ⟨_, _, _, _, _, e2⟩ := h2
    exact Option.some.inj (e1.symm.trans e2)
  | _ => exact Option.some.inj (Eq.trans (Eq.symm h1) h2)
section FCM
variable {p : Program} {l : Launch} {e : Env} {R : Room} {s : State} {m : MethodId} {args : Array Value} {below : List Frame} {meth : Method} {c : Code} {H : Heap} {locs : List Loc} {cells slots : Nat} {Q : State → Prop}
variable {cc : ByteArray} {pc : Nat} {ls : Array Slot} {rest : List Value} {D : va_G} {tc : Nat → ClassId} {A : Nat → Prop} {ws : va_W}
theorem fc_newa (t : Nat) {atype : ArrayType} {ty : FieldType} {n : Int32} {N' : Nat} {a0 : vp_A} (hexec : p.tables.exec = Jvm.exec) (hb : c.code = cc) (harr : (Cond.arrayClass (newarray.typeOf atype)).before args s = true) (hty : newarray.typeOf atype = ty) (ht : (fcT tc)[t]? = some (tc t, ty)) (hK : va_K D vwCl (fcT tc) s) (hP : va_P D vwCl ws H) (hD : va_D A ws) (hS : va_S A s.heap H locs) (hA : ∀ q : Nat, s.heap.size ≤ q → A q)
    (ha : ∀ cA : ClassId, vp_cell cA a0 = arrV cA N' (fun _ => defaultValue ty)) (hn : ¬ n < 0) (hN : n.toNatClampNeg = N') (hbytes : N' * componentBytes ty ≤ 536870912) (hcells : cells + 1 ≤ R.cells) (hslots : slots + N' ≤ R.slots) (hdg : decode cc pc = .ok (.newarray atype, 2))
    (kk : ∀ (q : Nat) (H1 : Heap), va_P D vwCl (ws ++ [(q, .inl (tc t, a0))]) H1 → va_D A (ws ++ [(q, .inl (tc t, a0))]) → va_S A s.heap H1 locs →
      W p l e R s m args below meth c H1 locs (cells + 1) (slots + N') Q (F0 m (pc + 2) ls (.ref q :: rest))) : W p l e R s m args below meth c H locs cells slots Q (F0 m pc ls (.int n :: rest)) := by
  refine va_newa hexec hb harr hty hK hP hD hS hA ha hn hN hbytes hcells hslots hdg (fun q cA H1 hK1 hP1 hD1 hS1 => ?_)
  have h5 : (fcT tc ++ [(cA, ty)])[5]? = some (cA, ty) := rfl
  have e : cA = tc t := fc_RAinj (hK1.2 5 _ h5).2 (hK.2 t _ ht).2
  subst e
  exact kk q H1 hP1 hD1 hS1
theorem fc_copyt {ws : va_W} {a : Nat} (hexec : p.tables.exec = Jvm.exec) (hb : c.code = cc) (hml : c.maxLocals = ls.size) {own : String} {index : Nat} (hown : s.vm.findClass own = some m.cls) (hlink : (Cond.methodLink own index arraycopyName).before args s = true) (hnat : (Cond.native arraycopyName).before args s = true) (hstat : (Cond.static arraycopyName).before args s = true) (hini : (Cond.initialized "java/lang/System").before args s = true)
    (hK : va_K D vwCl (fcT tc) s) (hP : va_P D vwCl ws H) (hD : va_D A ws) (hS : va_S A s.heap H locs) {b0 n0 : Nat} {f : Nat → Int32} (hX : va_T .int b0 n0 (fun j => .int (f j)) A s s.heap) (q1 t1 : Nat) {c1 : ClassId} {n1 : Nat} {g : Nat → Int32} (ha1 : ws[q1]? = some (a, .inl (c1, n1, .inl g))) (ht1 : (fcT tc)[t1]? = some (c1, .int))
    {sp dp n : Int32} (h1 : ¬ sp < 0) (h2 : ¬ dp < 0) (h3 : ¬ n < 0) (h4 : sp.toNatClampNeg + n.toNatClampNeg ≤ n0) (h5 : dp.toNatClampNeg + n.toNatClampNeg ≤ n1) (hfit : ∀ i : Nat, i < n.toNatClampNeg → fits .int (.int (f (sp.toNatClampNeg + i))) = true)
    (hframes : 1 ≤ R.frames) (hlocals : (rest.map fun v => v.category).sum + (nativeFrameWords "java/lang/System" "arraycopy" 5 + 11) ≤ R.locals) (hdg : decode cc pc = .ok (.invokestatic index, 3))
    (kk : ∀ (H1 : Heap) (locs1 : List Loc), va_P D vwCl (ws.set q1 (a, .inl (c1, n1, .inl (va_cpy f g sp.toNatClampNeg dp.toNatClampNeg n.toNatClampNeg)))) H1 → va_D A (ws.set q1 (a, .inl (c1, n1, .inl (va_cpy f g sp.toNatClampNeg dp.toNatClampNeg n.toNatClampNeg)))) → va_S A s.heap H1 locs1 → W p l e R s m args below meth c H1 locs1 cells slots Q (F0 m (pc + 3) ls rest)) : W p l e R s m args below meth c H locs cells slots Q (F0 m pc ls (.int n :: .int dp :: .ref a :: .int sp :: .ref b0 :: rest)) := by
  have nn : ∀ z : Int32, ¬ z < 0 → z.toInt = (z.toNatClampNeg : Int) := by
    intro z hz
    have hz0 : (0 : Int) ≤ z.toInt := by
      have := Int32.not_lt.mp hz
      simpa using Int32.le_iff_toInt_le.mp this
    show z.toInt = ((z.toInt.toNat : Nat) : Int)
    omega
  intro T hT X
  obtain ⟨scr, hs1, hs2, hs3, hs4, -, hs5, hs7⟩ := hX
  have hc0 : H[b0]? = some scr := by rw [hS.2.1 b0 (Array.getElem?_eq_some_iff.mp hs1).1 hs7]; exact hs1
  have hc1 : H[a]? = some (vp_cell c1 (n1, .inl g)) := hP q1 _ ha1
  obtain ⟨hs6, k0, hk0, cm0, hkk0⟩ := hs2
  obtain ⟨-, k1, hk1, cm1, hkk1⟩ := (hK.2 t1 _ ht1).1 n1 (fun j => .int (g j))
  obtain ⟨vm', X', step⟩ := X.arraycopy hexec hown hlink hnat hstat hini (src := b0) (dst := a) (cs := scr) (cd := vp_cell c1 (n1, .inl g)) (srcPos := sp) (destPos := dp) (n := n) (by rw [hT]; exact hc0) (by rw [hT]; exact hc1)
    hs6 (fun _ h => by cases h) hs3 (fun h => by cases h) hk0 hk1 hkk0 hkk1 (by simp [refKind]) h1 h2 h3
    (by rw [nn sp h1, nn n h3]; omega)
    (by rw [nn dp h2, nn n h3]; show ¬ _ > ((arrV c1 n1 (fun j => .int (g j))).slots.size : Int); rw [arrV_size]; omega)
    (fun vm₁ _ i hi => by
      have e : scr.slots.getD (sp.toNatClampNeg + i) .null = .int (f (sp.toNatClampNeg + i)) := by
        rw [Array.getD_eq_getD_getElem?, hs5 _ (by omega)]
        rfl
      refine ⟨?_, ?_⟩
      · rw [e]
        exact hfit i hi
      · rw [e]
        exact trivial)
    (g := F0 m pc ls (.int n :: .int dp :: .ref a :: .int sp :: .ref b0 :: rest)) rfl (by rw [hml]) (rest := rest) rfl (by rw [hb]; exact hdg) hframes (by show 2 * 0 + _ + _ ≤ _; omega)
  have e1 : copied scr (vp_cell c1 (n1, .inl g)) sp dp n = vp_cell c1 (n1, .inl (va_cpy f g sp.toNatClampNeg dp.toNatClampNeg n.toNatClampNeg)) := va_copiedX (fun z => .int z) scr c1 f g hs5 h4
  rw [e1] at X' step
  have hl : a < H.size := (Array.getElem?_eq_some_iff.mp hc1).1
  have hheap : ((T.setVm vm').setCell a (vp_cell c1 (n1, .inl (va_cpy f g sp.toNatClampNeg dp.toNatClampNeg n.toNatClampNeg)))).heap = H.setIfInBounds a (vp_cell c1 (n1, .inl (va_cpy f g sp.toNatClampNeg dp.toNatClampNeg n.toNatClampNeg))) := by rw [← hT]; rfl
  have oq : ∀ q : Nat, q ≠ a → (H.setIfInBounds a (vp_cell c1 (n1, .inl (va_cpy f g sp.toNatClampNeg dp.toNatClampNeg n.toNatClampNeg))))[q]? = H[q]? := fun q hq => by simp [Array.getElem?_setIfInBounds, Ne.symm hq]
  obtain ⟨t, a1, b1⟩ := kk _ _ (hP.set hD ha1 (show (H.setIfInBounds a _)[a]? = some _ by simp [Array.getElem?_setIfInBounds, hl]) oq) (hD.set ha1) ⟨by simp; exact hS.1, fun q g1 g2 => by
      rw [oq q (fun e => g2 (by rw [e]; exact hD.2 q1 _ ha1))]
      exact hS.2.1 q g1 g2, fun q hq => by
      rcases List.mem_append.mp hq with h | h
      · exact hS.2.2 q h
      · obtain ⟨z, -, hz⟩ := List.mem_map.mp h
        rw [← hz]
        exact hD.2 q1 _ ha1⟩ _ hheap X'
  exact ⟨t, step t a1, b1⟩
end FCM
theorem fc_addk {x k : Int32} {n : Int} (hk : k.toInt = n) (h1 : -2147483648 ≤ x.toInt + n) (h2 : x.toInt + n < 2147483648) : (x + k).toInt = x.toInt + n := by
  subst hk; exact fc_add h1 h2
theorem fc_subk {x k : Int32} {n : Int} (hk : k.toInt = n) (h1 : -2147483648 ≤ x.toInt - n) (h2 : x.toInt - n < 2147483648) : (x - k).toInt = x.toInt - n := by
  subst hk; exact fc_sub h1 h2
theorem fc_mulk {x k : Int32} {n : Int} (hk : k.toInt = n) (h1 : -2147483648 ≤ x.toInt * n) (h2 : x.toInt * n < 2147483648) : (x * k).toInt = x.toInt * n := by
  subst hk; exact fc_mul h1 h2
theorem fc_kmul {x k : Int32} {n : Int} (hk : k.toInt = n) (h1 : -2147483648 ≤ n * x.toInt) (h2 : n * x.toInt < 2147483648) : (k * x).toInt = n * x.toInt := by
  subst hk; exact fc_mul h1 h2
theorem fc_kadd {x k : Int32} {n : Int} (hk : k.toInt = n) (h1 : -2147483648 ≤ n + x.toInt) (h2 : n + x.toInt < 2147483648) : (k + x).toInt = n + x.toInt := by
  subst hk; exact fc_add h1 h2
theorem fc_ksub {x k : Int32} {n : Int} (hk : k.toInt = n) (h1 : -2147483648 ≤ n - x.toInt) (h2 : n - x.toInt < 2147483648) : (k - x).toInt = n - x.toInt := by
  subst hk; exact fc_sub h1 h2
theorem fc_divk {x k : Int32} {n : Int} (hk : k.toInt = n) (h0 : 2 ≤ n) : (x / k).toInt = x.toInt.tdiv n := by
  rw [Int32.toInt_div, hk]
  have h1 := fc_rng x
  have h2 : -(2147483648 : Int) ≤ x.toInt.tdiv n ∧ x.toInt.tdiv n < 2147483648 := by
    have h3 := Int.natAbs_tdiv_le_natAbs x.toInt n
    by_cases hx : 0 ≤ x.toInt
    · have := Int.tdiv_nonneg hx (show 0 ≤ n by omega)
      omega
    · have h4 : x.toInt.tdiv n ≤ 0 := by
        have := Int.tdiv_nonneg (show 0 ≤ -x.toInt by omega) (show 0 ≤ n by omega)
        rw [Int.neg_tdiv] at this
        omega
      omega
  exact fc_bmod h2.1 h2.2
/-- the rest of a division, as the machine makes it -/
theorem fc_remk {x k : Int32} {n : Int} (hk : k.toInt = n) (h0 : 2 ≤ n) (hn : n < 2147483648) : (x - x / k * k).toInt = x.toInt.tmod n := by
  have h1 := fc_rng x
  have hq := fc_divk (x := x) hk h0
  have h3 := tmod_bounds (a := x.toInt) (M := n) (by omega)
  have h4 := Int.mul_tdiv_add_tmod x.toInt n
  have hm : n * x.toInt.tdiv n = x.toInt.tdiv n * n := Int.mul_comm _ _
  have ha : -2147483648 ≤ x.toInt.tdiv n * n ∧ x.toInt.tdiv n * n < 2147483648 := by
    by_cases hx : 0 ≤ x.toInt
    · have := Int.tmod_nonneg n hx
      have h5 := Int.mul_nonneg (Int.tdiv_nonneg hx (show 0 ≤ n by omega)) (show 0 ≤ n by omega)
      omega
    · have h6 : x.toInt.tmod n ≤ 0 := by
        have := Int.tmod_nonneg n (show 0 ≤ -x.toInt by omega)
        rw [Int.neg_tmod] at this
        omega
      have h7 : x.toInt.tdiv n ≤ 0 := by
        have := Int.tdiv_nonneg (show 0 ≤ -x.toInt by omega) (show 0 ≤ n by omega)
        rw [Int.neg_tdiv] at this
        omega
      omega
  have hmul : (x / k * k).toInt = x.toInt.tdiv n * n := by rw [fc_mulk hk (by rw [hq]; exact ha.1) (by rw [hq]; exact ha.2), hq]
  rw [fc_sub (by rw [hmul]; omega) (by rw [hmul]; omega), hmul]
  omega
theorem fc_remk_rng {x k : Int32} {n : Int} (hk : k.toInt = n) (h0 : 2 ≤ n) (hn : n < 2147483648) : -n < (x - x / k * k).toInt ∧ (x - x / k * k).toInt < n := by
  rw [fc_remk hk h0 hn]; exact tmod_bounds (by omega)
