/-! The law's cases: append -/
section
variable {p : Program} {l : Launch} {e : Env} {s : State} {m : MethodId} {b : Nat} {below : List Frame} {meth : Method} {c : Code} {H : Heap} {locs : List Loc} {cells slots : Nat} {Q : State → Prop} {A : Nat → Prop} {ls : Array Slot}
variable {D : va_G} {tc : Nat → ClassId} {a : Nat → Nat} {pa : Nat → Nat → Nat} {Bd i : Nat} {sg : Nat → fcSV} {sz : Nat}
variable {NL : Nat} {xs : Nat → Int32}
set_option maxHeartbeats 4000000 in
theorem hm_L_append : yL_append.cls ≠ "java/lang/invoke/MethodHandle" ∧ yL_append.cls ≠ "java/lang/invoke/VarHandle" ∧ (parseMethodDescriptor yL_append.desc).map (fun d => d.parameters.length) = some 3 := by decide +kernel
theorem hm_X8_append : yX8_append.cls = RX8 ∧ yX8_append.cls ≠ "java/lang/invoke/MethodHandle" ∧ yX8_append.cls ≠ "java/lang/invoke/VarHandle" ∧ (parseMethodDescriptor yX8_append.desc).map (fun d => d.parameters.length) = some 1 := by decide +kernel
set_option maxHeartbeats 8000000 in
set_option maxRecDepth 100000 in
theorem lc_append {signs : Nat → Int32} {len : Int32} {v w : fcSV} {old hln f0 : Int32} {u : fcSV} {f1 : Int32} {x : fcSV} {rf ss sp ig lf ac : Int32} {scr rrow row trow dia kpt isk : Nat → Int32} {of_ : Nat → Int64} (hx : p.tables.exec = Jvm.exec) (hb : c.code = cL_law) (hml : c.maxLocals = 7) (hown : s.vm.findClass RL = some m.cls) (hts : ∀ w ∈ wsL_law, w.before #[Value.ref b] s = true) (hK : va_K D vwCl (fcT tc) s) (hE : fcE A s s.heap) (hA : ∀ q : Nat, s.heap.size ≤ q → A q) (hCat : fcCat s) (hfl : l.stackTraces = false)
    (hP : va_P D vwCl (lwX tc a (paQ pa 14) signs len v w old hln f0 u f1 x rf ss sp ig lf ac scr rrow row trow dia kpt isk of_ ++ fcPool tc pa sg 14) H) (hD : va_D A (lwX tc a (paQ pa 14) signs len v w old hln f0 u f1 x rf ss sp ig lf ac scr rrow row trow dia kpt isk of_ ++ fcPool tc pa sg 14)) (hS : va_S A s.heap H locs) (hl : lv_has ls 7 [(4, .int (nI i)), (3, .ref (a 55)), (2, .ref (a 47)), (1, .ref (a 0)), (0, .ref b)]) (hI : lwI Bd sg signs len v old hln f0 u f1 x ss ac scr row dia kpt isk) (hB : Bd + 8000 < 1000000000) (hf : cells + 2 ≤ 601024 ∧ slots + 12 ≤ 7293034) (hX : va_X b NL xs s s.heap) (hbl : b < s.heap.size) (hbA : ¬ A b) (hi4 : i + 4 ≤ NL) (hNL : NL ≤ 2048)
    (kk : ∀ (sg' : Nat → fcSV) (signs : Nat → Int32) (len : Int32) (v w : fcSV) (old hln f0 : Int32) (u : fcSV) (f1 : Int32) (x : fcSV) (rf ss sp ig lf ac : Int32) (scr rrow row trow dia kpt isk : Nat → Int32) (of_ : Nat → Int64) (H : Heap) (locs : List Loc) (ls : Array Slot), lwI (Bd + 7200) sg' signs len v old hln f0 u f1 x ss ac scr row dia kpt isk → va_P D vwCl (lwX tc a (paQ pa 14) signs len v w old hln f0 u f1 x rf ss sp ig lf ac scr rrow row trow dia kpt isk of_ ++ fcPool tc pa sg' 14) H → va_D A (lwX tc a (paQ pa 14) signs len v w old hln f0 u f1 x rf ss sp ig lf ac scr rrow row trow dia kpt isk of_ ++ fcPool tc pa sg' 14) → va_S A s.heap H locs → lv_has ls 7 [(4, .int (nI i)), (3, .ref (a 55)), (2, .ref (a 47)), (1, .ref (a 0)), (0, .ref b)] → W p l e room_1 s m #[Value.ref b] below meth c H locs (cells + 2) (slots + 12) Q (F0 m 1504 ls [])) :
    W p l e room_1 s m #[Value.ref b] below meth c H locs cells slots Q (F0 m 152 ls []) := by
  have hI0 := hI
  obtain ⟨⟨L, hT⟩, hI2, ⟨o, hn, eo, eh, ea, hH⟩, hI4, hI5⟩ := hI
  have hI2' := hI2
  obtain ⟨K, W9, C, B, hR⟩ := hI2
  have hcnt := RR_cnt hR
  have hp := P_append (rf := rf) (ss := ss) (sp := sp) (ig := ig) (lf := lf) (ac := ac) (p0 := (xs (nI i + 1).toNatClampNeg)) hT
  have hex1 : ∀ E, mX7_append signs len (xs (nI i + 1).toNatClampNeg) = Sum.inl E → E = fxE 0 ∨ E = fxE 1 := by
    intro E hE
    rcases hp with ⟨e1, e2⟩ | ⟨e1, e2⟩ | ⟨r, len', signs', scr', e1, e2, e3⟩
    · exact Or.inl (Sum.inl.inj (hE.symm.trans e1))
    · exact Or.inr (Sum.inl.inj (hE.symm.trans e1))
    · rw [e1] at hE
      cases hE
  refine lv_aload_n hx hb dL_law_152 rfl (lv_at hl 3 rfl) ?_
  refine lv_aload_n hx hb dL_law_153 rfl (lv_at hl 4 rfl) ?_
  refine lv_iload hx hb dL_law_154 (lv_at hl 0 rfl) ?_
  refine lv_iconst (v := 1) hx hb dL_law_156 (by decide) ?_
  refine lv_iadd hx hb dL_law_157 ?_
  refine va_sld hx hb hX hbl hbA hS (show vp_in (nI i + 1) NL by rw [show nI i + (1 : Int32) = nI (i + 1) from nI_add i 1]; exact vp_in_nI (by omega) (by omega)) dL_law_158 ?_
  refine lv_aload_n hx hb dL_law_159 rfl (lv_at hl 1 rfl) ?_
  refine fc_goiQ (isC := [0, 1, 2, 55]) (isR := [3, 4, 5, 6, 7, 8, 9, 10, 11, 12, 13, 14, 15, 16, 17, 18, 19, 20, 21, 22, 23, 24, 25, 26, 27, 28, 29, 30, 31, 32, 33, 34, 35, 36, 37, 38, 39, 40, 41, 42, 43, 44, 45, 46, 47, 48, 49, 50, 51, 52, 53, 54]) (wc := [((a 0), .inr (7, [.ref (a 1), .ref (a 3), .ref (a 13), .ref (a 23), .ref (a 25), .ref (a 36)])), ((a 1), .inr (6, [.ref (a 2), .int len])), ((a 2), .inl (tc 1, 120, .inl signs)), (a 55, .inl (tc 3, 1, .inr (.inl of_)))]) (wr := (((lwX tc a (paQ pa 14) signs len v w old hln f0 u f1 x rf ss sp ig lf ac scr rrow row trow dia kpt isk of_).drop 3).take 52)) hP hD hS hA rfl rfl (by decide) (by decide) (fc_runH (isC := [0, 1, 2, 55]) (As := [.ref (a 0), .int (xs (nI i + 1).toNatClampNeg), .ref (a 55)]) (rest := []) hx hb hml hown hts hK hE hP hD hS hA (fc_mapL rfl) (by decide) (c_L_append l hfl D tc (a 0) (a 1) (a 13) (a 23) (a 25) (a 36) (a 3) (a 2) signs len (xs (nI i + 1).toNatClampNeg) (a 55) of_ _  hex1) hCat (vx_cwSW 3 hts gL_law_L_append rfl rfl rfl hm_L_append ⟨Nat.le_of_ble_eq_true rfl, Nat.le_of_ble_eq_true rfl⟩) rfl hl.1 rfl (Nat.le_of_ble_eq_true rfl) dL_law_160 ⟨by show cells + 1 ≤ 601024; omega, by show slots + 6 ≤ 7293034; omega⟩) (fun r_1 u_1 H locs hw_1 hP hD hS => ?_)
  obtain ⟨hP, hD⟩ := fc_ord2 hP hD (X := (lwX tc a (paQ pa 14) (u_1.1.2) (u_1.1.1) v w old hln f0 u f1 x rf ss sp ig lf ac scr rrow row trow dia kpt isk (u_1.2))) [52, 53, 54, 0, 1, 2, 3, 4, 5, 6, 7, 8, 9, 10, 11, 12, 13, 14, 15, 16, 17, 18, 19, 20, 21, 22, 23, 24, 25, 26, 27, 28, 29, 30, 31, 32, 33, 34, 35, 36, 37, 38, 39, 40, 41, 42, 43, 44, 45, 46, 47, 48, 49, 50, 51, 55] (n := 56) rfl rfl (by decide)
  refine lv_istore (lv' := [(5, .int r_1), (4, .int (nI i)), (3, .ref (a 55)), (2, .ref (a 47)), (1, .ref (a 0)), (0, .ref b)]) hx hb dL_law_163 hl (by decide) rfl (fun ls hl => ?_)
  refine lv_aload_n hx hb dL_law_165 rfl (lv_at hl 3 rfl) ?_
  refine lv_aload_n hx hb dL_law_166 rfl (lv_at hl 5 rfl) ?_
  refine lv_iload hx hb dL_law_167 (lv_at hl 1 rfl) ?_
  refine lv_iconst (v := 1) hx hb dL_law_169 (by decide) ?_
  refine lv_iadd hx hb dL_law_170 ?_
  refine va_sld hx hb hX hbl hbA hS (show vp_in (nI i + 1) NL by rw [show nI i + (1 : Int32) = nI (i + 1) from nI_add i 1]; exact vp_in_nI (by omega) (by omega)) dL_law_171 ?_
  refine fc_goiQ (isC := [47, 48]) (isR := [0, 1, 2, 3, 4, 5, 6, 7, 8, 9, 10, 11, 12, 13, 14, 15, 16, 17, 18, 19, 20, 21, 22, 23, 24, 25, 26, 27, 28, 29, 30, 31, 32, 33, 34, 35, 36, 37, 38, 39, 40, 41, 42, 43, 44, 45, 46, 49, 50, 51, 52, 53, 54, 55]) (wc := [((a 47), .inr (8, [.int rf, .ref (a 48), .int ss, .int sp, .int ig, .int lf, .ref (a 49), .ref (a 50), .ref (a 51), .ref (a 52), .int ac, .ref (a 53), .ref (a 54)])), ((a 48), .inl (tc 0, 120, .inl scr))]) (wr := (((lwX tc a (paQ pa 14) (u_1.1.2) (u_1.1.1) v w old hln f0 u f1 x rf ss sp ig lf ac scr rrow row trow dia kpt isk (u_1.2)).drop 0).take 47 ++ ((lwX tc a (paQ pa 14) (u_1.1.2) (u_1.1.1) v w old hln f0 u f1 x rf ss sp ig lf ac scr rrow row trow dia kpt isk (u_1.2)).drop 49).take 7)) hP hD hS hA rfl rfl (by decide) (by decide) (fc_runV (isC := [47, 48]) (As := [.int (xs (nI i + 1).toNatClampNeg)]) (rest := []) hx hb hml hown hts hK hE hP hD hS hA (fc_mapL rfl) (by decide) (c_X8_append l D tc (a 47) (a 48) (a 49) (a 50) (a 51) (a 52) (a 53) (a 54) rf ss sp ig lf ac scr (xs (nI i + 1).toNatClampNeg) _ (by rw [hT.2.2.1, fc_nI (by have := hT.1; omega)]; have := hT.1; omega)) (cwV 1 hts gL_law_X8_append rfl rfl rfl hm_X8_append ⟨Nat.le_of_ble_eq_true rfl, Nat.le_of_ble_eq_true rfl⟩) (ci := 8) rfl rfl rfl rfl hl.1 rfl (Nat.le_of_ble_eq_true rfl) dL_law_172 ⟨by show cells + 1 + 0 ≤ 601024; omega, by show slots + 6 + 0 ≤ 7293034; omega⟩) (fun r_2 u_2 H locs hw_2 hP hD hS => ?_)
  obtain ⟨hP, hD⟩ := fc_ord2 hP hD (X := (lwX tc a (paQ pa 14) (u_1.1.2) (u_1.1.1) v w old hln f0 u f1 x (u_2.1) (u_2.2.1) sp ig lf ac (u_2.2.2) rrow row trow dia kpt isk (u_1.2))) [0, 1, 2, 3, 4, 5, 6, 7, 8, 9, 10, 11, 12, 13, 14, 15, 16, 17, 18, 19, 20, 21, 22, 23, 24, 25, 26, 27, 28, 29, 30, 31, 32, 33, 34, 35, 36, 37, 38, 39, 40, 41, 42, 43, 44, 45, 46, 54, 55, 47, 48, 49, 50, 51, 52, 53] (n := 56) rfl rfl (by decide)
  refine lv_istore (lv' := [(6, .int r_2), (5, .int r_1), (4, .int (nI i)), (3, .ref (a 55)), (2, .ref (a 47)), (1, .ref (a 0)), (0, .ref b)]) hx hb dL_law_175 hl (by decide) rfl (fun ls hl => ?_)
  refine lv_aload_n hx hb dL_law_177 rfl (lv_at hl 4 rfl) ?_
  refine fc_goiQ (isC := [47]) (isR := [0, 1, 2, 3, 4, 5, 6, 7, 8, 9, 10, 11, 12, 13, 14, 15, 16, 17, 18, 19, 20, 21, 22, 23, 24, 25, 26, 27, 28, 29, 30, 31, 32, 33, 34, 35, 36, 37, 38, 39, 40, 41, 42, 43, 44, 45, 46, 48, 49, 50, 51, 52, 53, 54, 55]) (wc := [(a 47, .inr (8, [.int (u_2.1), .ref (a 48), .int (u_2.2.1), .int sp, .int ig, .int lf, .ref (a 49), .ref (a 50), .ref (a 51), .ref (a 52), .int ac, .ref (a 53), .ref (a 54)]))]) (wr := (((lwX tc a (paQ pa 14) (u_1.1.2) (u_1.1.1) v w old hln f0 u f1 x (u_2.1) (u_2.2.1) sp ig lf ac (u_2.2.2) rrow row trow dia kpt isk (u_1.2)).drop 0).take 47 ++ ((lwX tc a (paQ pa 14) (u_1.1.2) (u_1.1.1) v w old hln f0 u f1 x (u_2.1) (u_2.2.1) sp ig lf ac (u_2.2.2) rrow row trow dia kpt isk (u_1.2)).drop 48).take 8)) hP hD hS hA rfl rfl (by decide) (by decide) (fc_runV (isC := [47]) (As := []) (rest := []) hx hb hml hown hts hK hE hP hD hS hA (fc_mapL rfl) (by decide) (c_X8_thrown l D tc (a 47) (a 48) (a 49) (a 50) (a 51) (a 52) (a 53) (a 54) (u_2.1) (u_2.2.1) sp ig lf ac _) (cwV 0 hts gL_law_X8_thrown rfl rfl rfl hm_X8_thrown ⟨Nat.le_of_ble_eq_true rfl, Nat.le_of_ble_eq_true rfl⟩) (ci := 8) rfl rfl rfl rfl hl.1 rfl (Nat.le_of_ble_eq_true rfl) dL_law_178 ⟨by show cells + 1 + 0 ≤ 601024; omega, by show slots + 6 + 0 ≤ 7293034; omega⟩) (fun r_3 u_3 H locs hw_3 hP hD hS => ?_)
  obtain ⟨hP, hD⟩ := fc_ord2 hP hD (X := (lwX tc a (paQ pa 14) (u_1.1.2) (u_1.1.1) v w old hln f0 u f1 x (u_2.1) (u_2.2.1) sp ig lf ac (u_2.2.2) rrow row trow dia kpt isk (u_1.2))) [0, 1, 2, 3, 4, 5, 6, 7, 8, 9, 10, 11, 12, 13, 14, 15, 16, 17, 18, 19, 20, 21, 22, 23, 24, 25, 26, 27, 28, 29, 30, 31, 32, 33, 34, 35, 36, 37, 38, 39, 40, 41, 42, 43, 44, 45, 46, 55, 47, 48, 49, 50, 51, 52, 53, 54] (n := 56) rfl rfl (by decide)
  refine lv_iload hx hb dL_law_181 (lv_at hl 1 rfl) ?_
  rcases hp with ⟨e1, e2⟩ | ⟨e1, e2⟩ | ⟨r, len', signs', scr', e1, e2, e3⟩
  · rcases hw_1 with ⟨hf1, hf2, hf3⟩ | ⟨hf1, hf2, hf3⟩ | ⟨x9, hf1, hf2, hf3⟩
    · subst hf2
      subst hf3
      obtain ⟨rfl, rfl⟩ := Prod.mk.inj (e2.symm.trans hw_2)
      obtain rfl : (1 : Int32) = r_3 := hw_3
      refine lv_icmp_eq (tgt := 188) hx hb dL_law_183 (by decide) (fun _ => ?_) (fun c1 => absurd rfl c1)
      refine lv_iload hx hb dL_law_188 (lv_at hl 1 rfl) ?_
      refine lv_if_ne (tgt := 205) hx hb dL_law_190 (by decide) (fun _ => ?_) (fun c1 => absurd c1 (by decide))
      refine lv_goto (tgt := 1504) hx hb dL_law_205 (by decide) ?_
      exact (kk _ _ _ _ _ _ _ _ _ _ _ _ _ _ _ _ _ _ _ _ _ _ _ _ _ H locs ls (hI0.mono (by omega)) hP hD hS (lv_sub hl [2, 3, 4, 5, 6] rfl)).widen (by omega) (by omega)
    · exact absurd (Sum.inl.inj (e1.symm.trans hf1)) fx_ne01
    · exact absurd (e1.symm.trans hf1) (fun h => nomatch h)
  · rcases hw_1 with ⟨hf1, hf2, hf3⟩ | ⟨hf1, hf2, hf3⟩ | ⟨x9, hf1, hf2, hf3⟩
    · exact absurd (Sum.inl.inj (e1.symm.trans hf1)) fx_ne10
    · subst hf2
      subst hf3
      obtain ⟨rfl, rfl⟩ := Prod.mk.inj (e2.symm.trans hw_2)
      obtain rfl : (2 : Int32) = r_3 := hw_3
      refine lv_icmp_eq (tgt := 188) hx hb dL_law_183 (by decide) (fun _ => ?_) (fun c1 => absurd rfl c1)
      refine lv_iload hx hb dL_law_188 (lv_at hl 1 rfl) ?_
      refine lv_if_ne (tgt := 205) hx hb dL_law_190 (by decide) (fun _ => ?_) (fun c1 => absurd c1 (by decide))
      refine lv_goto (tgt := 1504) hx hb dL_law_205 (by decide) ?_
      exact (kk _ _ _ _ _ _ _ _ _ _ _ _ _ _ _ _ _ _ _ _ _ _ _ _ _ H locs ls (hI0.mono (by omega)) hP hD hS (lv_sub hl [2, 3, 4, 5, 6] rfl)).widen (by omega) (by omega)
    · exact absurd (e1.symm.trans hf1) (fun h => nomatch h)
  · rcases hw_1 with ⟨hf1, hf2, hf3⟩ | ⟨hf1, hf2, hf3⟩ | ⟨x9, hf1, hf2, hf3⟩
    · exact absurd (e1.symm.trans hf1) (fun h => nomatch h)
    · exact absurd (e1.symm.trans hf1) (fun h => nomatch h)
    · subst hf2
      obtain ⟨rfl, hz⟩ := Prod.mk.inj (Sum.inr.inj (e1.symm.trans hf1))
      obtain ⟨rfl, rfl⟩ := Prod.mk.inj (e2.symm.trans hw_2)
      obtain rfl : (0 : Int32) = r_3 := hw_3
      refine lv_icmp_eq (tgt := 188) hx hb dL_law_183 (by decide) (fun _ => ?_) (fun c1 => absurd rfl c1)
      refine lv_iload hx hb dL_law_188 (lv_at hl 1 rfl) ?_
      refine lv_if_ne (tgt := 205) hx hb dL_law_190 (by decide) (fun c1 => absurd rfl c1) (fun _ => ?_)
      refine lv_aload_n hx hb dL_law_193 rfl (lv_at hl 3 rfl) ?_
      refine lv_iconst (v := 0) hx hb dL_law_194 (by decide) ?_
      refine va_lald (D := D) hx hb hK hP 55 3 rfl rfl (vp_in_iff.mpr (by decide)) dL_law_195 ?_
      refine lv_iload hx hb dL_law_196 (lv_at hl 0 rfl) ?_
      refine lv_i2l hx hb dL_law_198 rfl ?_
      refine W.lcmp hx hb dL_law_199 ?_
      refine lv_if_eq (tgt := 205) hx hb dL_law_200 (by decide) (fun _ => ?_) (fun c1 => absurd ((lg_cmp_eq _ _).mpr (by rw [hf3]; exact if_pos rfl)) c1)
      refine lv_goto (tgt := 1504) hx hb dL_law_205 (by decide) ?_
      have key : ∀ y, (len', signs') = y → lwI Bd sg (y.2) (y.1) v old hln f0 u f1 x len' ac scr' row dia kpt isk := by
        intro y hy
        subst hy
        exact ⟨⟨L + 1, e3⟩, hI2', ⟨o, hn, eo, eh, ea, hH⟩, hI4, hI5⟩
      exact (kk _ _ _ _ _ _ _ _ _ _ _ _ _ _ _ _ _ _ _ _ _ _ _ _ _ H locs ls ((key u_1.1 hz).mono (by omega)) hP hD hS (lv_sub hl [2, 3, 4, 5, 6] rfl)).widen (by omega) (by omega)
end
