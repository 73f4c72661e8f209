/-! The law's cases: frame, waiting, broken -/
section
variable {p : Program} {l : Launch} {e : Env} {s : State} {m : MethodId} {b : Nat} {below : List Frame} {meth : Method} {c : Code} {H : Heap} {locs : List Loc} {cells slots : Nat} {Q : State → Prop} {A : Nat → Prop} {ls : Array Slot}
variable {D : va_G} {tc : Nat → ClassId} {a : Nat → Nat} {pa : Nat → Nat → Nat} {Bd i : Nat} {sg : Nat → fcSV} {sz : Nat}
variable {NL : Nat} {xs : Nat → Int32}
set_option maxHeartbeats 4000000 in
theorem hm_L_frame : yL_frame.cls ≠ "java/lang/invoke/MethodHandle" ∧ yL_frame.cls ≠ "java/lang/invoke/VarHandle" ∧ (parseMethodDescriptor yL_frame.desc).map (fun d => d.parameters.length) = some 4 := by decide +kernel
theorem hm_X8_frame : yX8_frame.cls = RX8 ∧ yX8_frame.cls ≠ "java/lang/invoke/MethodHandle" ∧ yX8_frame.cls ≠ "java/lang/invoke/VarHandle" ∧ (parseMethodDescriptor yX8_frame.desc).map (fun d => d.parameters.length) = some 2 := by decide +kernel
set_option maxHeartbeats 8000000 in
set_option maxRecDepth 100000 in
theorem lc_frame {signs : Nat → Int32} {len : Int32} {v w : fcSV} {old hln f0 : Int32} {u : fcSV} {f1 : Int32} {x : fcSV} {rf ss sp ig lf ac : Int32} {scr rrow row trow dia kpt isk : Nat → Int32} {of_ : Nat → Int64} (hx : p.tables.exec = Jvm.exec) (hb : c.code = cL_law) (hml : c.maxLocals = 7) (hown : s.vm.findClass RL = some m.cls) (hts : ∀ w ∈ wsL_law, w.before #[Value.ref b] s = true) (hK : va_K D vwCl (fcT tc) s) (hE : fcE A s s.heap) (hA : ∀ q : Nat, s.heap.size ≤ q → A q) (hCat : fcCat s) (hfl : l.stackTraces = false)
    (hP : va_P D vwCl (lwX tc a (paQ pa 14) signs len v w old hln f0 u f1 x rf ss sp ig lf ac scr rrow row trow dia kpt isk of_ ++ fcPool tc pa sg 14) H) (hD : va_D A (lwX tc a (paQ pa 14) signs len v w old hln f0 u f1 x rf ss sp ig lf ac scr rrow row trow dia kpt isk of_ ++ fcPool tc pa sg 14)) (hS : va_S A s.heap H locs) (hl : lv_has ls 7 [(4, .int (nI i)), (3, .ref (a 55)), (2, .ref (a 47)), (1, .ref (a 0)), (0, .ref b)]) (hI : lwI Bd sg signs len v old hln f0 u f1 x ss ac scr row dia kpt isk) (hB : Bd + 8000 < 1000000000) (hf : cells + 2 ≤ 601024 ∧ slots + 12 ≤ 7293034) (hX : va_X b NL xs s s.heap) (hbl : b < s.heap.size) (hbA : ¬ A b) (hi4 : i + 4 ≤ NL) (hNL : NL ≤ 2048)
    (kk : ∀ (sg' : Nat → fcSV) (signs : Nat → Int32) (len : Int32) (v w : fcSV) (old hln f0 : Int32) (u : fcSV) (f1 : Int32) (x : fcSV) (rf ss sp ig lf ac : Int32) (scr rrow row trow dia kpt isk : Nat → Int32) (of_ : Nat → Int64) (H : Heap) (locs : List Loc) (ls : Array Slot), lwI (Bd + 7200) sg' signs len v old hln f0 u f1 x ss ac scr row dia kpt isk → va_P D vwCl (lwX tc a (paQ pa 14) signs len v w old hln f0 u f1 x rf ss sp ig lf ac scr rrow row trow dia kpt isk of_ ++ fcPool tc pa sg' 14) H → va_D A (lwX tc a (paQ pa 14) signs len v w old hln f0 u f1 x rf ss sp ig lf ac scr rrow row trow dia kpt isk of_ ++ fcPool tc pa sg' 14) → va_S A s.heap H locs → lv_has ls 7 [(4, .int (nI i)), (3, .ref (a 55)), (2, .ref (a 47)), (1, .ref (a 0)), (0, .ref b)] → W p l e room_1 s m #[Value.ref b] below meth c H locs (cells + 2) (slots + 12) Q (F0 m 1504 ls [])) :
    W p l e room_1 s m #[Value.ref b] below meth c H locs cells slots Q (F0 m 334 ls []) := by
  have hI0 := hI
  obtain ⟨⟨L, hT⟩, hI2, ⟨o, hn, eo, eh, ea, hH⟩, hI4, hI5⟩ := hI
  have hI2' := hI2
  obtain ⟨K, W9, C, B, hR⟩ := hI2
  have hcnt := RR_cnt hR
  have hp := P_frame (rf := rf) (ss := ss) (sp := sp) (ig := ig) (lf := lf) (ac := ac) (p0 := xs (nI i + 1).toNatClampNeg) (p1 := xs (nI i + 2).toNatClampNeg) hR
  have hex1 : ∀ E, mX7_frame (v.2.2.2.2.2.2.1) (v.2.2.2.2.2.2.2.2.2.2.1) (v.2.2.2.2.2.2.2.1) (v.2.2.2.2.2.2.2.2.1) (v.2.2.2.2.2.2.2.2.2.1) (v.2.2.2.2.2.2.2.2.2.2.2.2.1) (v.2.2.2.2.2.2.2.2.2.2.2.1) (v.2.2.2.2.2.2.2.2.2.2.2.2.2.2.1) (v.2.2.2.2.2.2.2.2.2.2.2.2.2.1) (v.2.2.2.2.2.2.2.2.2.2.2.2.2.2.2.2.2.2.2.2.2) (v.2.2.2.2.2.2.2.2.2.2.2.2.2.2.2.1) (v.2.2.2.2.2.2.2.2.2.2.2.2.2.2.2.2.1) (v.2.2.2.2.2.2.2.2.2.2.2.2.2.2.2.2.2.1) (v.2.2.2.2.2.2.2.2.2.2.2.2.2.2.2.2.2.2.1) (v.2.2.2.2.2.2.2.2.2.2.2.2.2.2.2.2.2.2.2.1) (v.2.2.2.2.2.2.2.2.2.2.2.2.2.2.2.2.2.2.2.2.1) (v.1) (v.2.1) (v.2.2.1) (v.2.2.2.1) (v.2.2.2.2.1) (v.2.2.2.2.2.1) (xs (nI i + 1).toNatClampNeg) (xs (nI i + 2).toNatClampNeg) = Sum.inl E → E = fxE 2 ∨ E = fxE 0 := by
    intro E hE
    rcases hp with ⟨r, e1, e2⟩ | ⟨e1, e2⟩ | ⟨e1, e2⟩
    · rw [e1] at hE
      cases hE
    · exact Or.inl (Sum.inl.inj (hE.symm.trans e1))
    · exact Or.inr (Sum.inl.inj (hE.symm.trans e1))
  refine lv_aload_n hx hb dL_law_334 rfl (lv_at hl 3 rfl) ?_
  refine lv_aload_n hx hb dL_law_335 rfl (lv_at hl 4 rfl) ?_
  refine lv_iload hx hb dL_law_336 (lv_at hl 0 rfl) ?_
  refine lv_iconst (v := 1) hx hb dL_law_338 (by decide) ?_
  refine lv_iadd hx hb dL_law_339 ?_
  refine va_sld hx hb hX hbl hbA hS (show vp_in (nI i + 1) NL by rw [show nI i + (1 : Int32) = nI (i + 1) from nI_add i 1]; exact vp_in_nI (by omega) (by omega)) dL_law_340 ?_
  refine lv_aload_n hx hb dL_law_341 rfl (lv_at hl 4 rfl) ?_
  refine lv_iload hx hb dL_law_342 (lv_at hl 0 rfl) ?_
  refine lv_iconst (v := 2) hx hb dL_law_344 (by decide) ?_
  refine lv_iadd hx hb dL_law_345 ?_
  refine va_sld hx hb hX hbl hbA hS (show vp_in (nI i + 2) NL by rw [show nI i + (2 : Int32) = nI (i + 2) from nI_add i 2]; exact vp_in_nI (by omega) (by omega)) dL_law_346 ?_
  refine lv_aload_n hx hb dL_law_347 rfl (lv_at hl 1 rfl) ?_
  refine fc_goiQ (isC := [0, 3, 4, 5, 6, 7, 8, 9, 10, 11, 12, 55]) (isR := [1, 2, 13, 14, 15, 16, 17, 18, 19, 20, 21, 22, 23, 24, 25, 26, 27, 28, 29, 30, 31, 32, 33, 34, 35, 36, 37, 38, 39, 40, 41, 42, 43, 44, 45, 46, 47, 48, 49, 50, 51, 52, 53, 54]) (wc := [((a 0), .inr (7, [.ref (a 1), .ref (a 3), .ref (a 13), .ref (a 23), .ref (a 25), .ref (a 36)])), ((a 3), .inr (5, [.ref (a 4), .ref (a 5), .ref (a 7), .ref (a 9), .ref (a 11), .int (v.1), .int (v.2.1), .int (v.2.2.1), .int (v.2.2.2.1), .int (v.2.2.2.2.1), .int (v.2.2.2.2.2.1)])), ((a 4), .inl (tc 0, 3, .inl (v.2.2.2.2.2.2.1))), ((a 5), .inr (0, [.ref (a 6), .int (v.2.2.2.2.2.2.2.1), .int (v.2.2.2.2.2.2.2.2.1), .int (v.2.2.2.2.2.2.2.2.2.1)])), ((a 6), .inl (tc 0, 48, .inl (v.2.2.2.2.2.2.2.2.2.2.1))), ((a 7), .inr (1, [.ref (a 8), .int (v.2.2.2.2.2.2.2.2.2.2.2.1)])), ((a 8), .inl (tc 0, 336, .inl (v.2.2.2.2.2.2.2.2.2.2.2.2.1))), ((a 9), .inr (1, [.ref (a 10), .int (v.2.2.2.2.2.2.2.2.2.2.2.2.2.1)])), ((a 10), .inl (tc 0, 28, .inl (v.2.2.2.2.2.2.2.2.2.2.2.2.2.2.1))), ((a 11), .inr (3, [.ref (a 12), .int (v.2.2.2.2.2.2.2.2.2.2.2.2.2.2.2.1), .int (v.2.2.2.2.2.2.2.2.2.2.2.2.2.2.2.2.1), .int (v.2.2.2.2.2.2.2.2.2.2.2.2.2.2.2.2.2.1), .int (v.2.2.2.2.2.2.2.2.2.2.2.2.2.2.2.2.2.2.1), .int (v.2.2.2.2.2.2.2.2.2.2.2.2.2.2.2.2.2.2.2.1), .int (v.2.2.2.2.2.2.2.2.2.2.2.2.2.2.2.2.2.2.2.2.1)])), ((a 12), .inl (tc 0, 30, .inl (v.2.2.2.2.2.2.2.2.2.2.2.2.2.2.2.2.2.2.2.2.2))), (a 55, .inl (tc 3, 1, .inr (.inl of_)))]) (wr := (((lwX tc a (paQ pa 14) signs len v w old hln f0 u f1 x rf ss sp ig lf ac scr rrow row trow dia kpt isk of_).drop 1).take 2 ++ ((lwX tc a (paQ pa 14) signs len v w old hln f0 u f1 x rf ss sp ig lf ac scr rrow row trow dia kpt isk of_).drop 13).take 42)) hP hD hS hA rfl rfl (by decide) (by decide) (fc_runH (isC := [0, 3, 4, 5, 6, 7, 8, 9, 10, 11, 12, 55]) (As := [.ref (a 0), .int (xs (nI i + 1).toNatClampNeg), .int (xs (nI i + 2).toNatClampNeg), .ref (a 55)]) (rest := []) hx hb hml hown hts hK hE hP hD hS hA (fc_mapL rfl) (by decide) (c_L_frame l hfl D tc (a 0) (a 1) (a 13) (a 23) (a 25) (a 36) (a 3) (a 4) (a 5) (a 6) (a 7) (a 8) (a 9) (a 10) (a 11) (a 12) (v.2.2.2.2.2.2.1) (v.2.2.2.2.2.2.2.2.2.2.1) (v.2.2.2.2.2.2.2.1) (v.2.2.2.2.2.2.2.2.1) (v.2.2.2.2.2.2.2.2.2.1) (v.2.2.2.2.2.2.2.2.2.2.2.2.1) (v.2.2.2.2.2.2.2.2.2.2.2.1) (v.2.2.2.2.2.2.2.2.2.2.2.2.2.2.1) (v.2.2.2.2.2.2.2.2.2.2.2.2.2.1) (v.2.2.2.2.2.2.2.2.2.2.2.2.2.2.2.2.2.2.2.2.2) (v.2.2.2.2.2.2.2.2.2.2.2.2.2.2.2.1) (v.2.2.2.2.2.2.2.2.2.2.2.2.2.2.2.2.1) (v.2.2.2.2.2.2.2.2.2.2.2.2.2.2.2.2.2.1) (v.2.2.2.2.2.2.2.2.2.2.2.2.2.2.2.2.2.2.1) (v.2.2.2.2.2.2.2.2.2.2.2.2.2.2.2.2.2.2.2.1) (v.2.2.2.2.2.2.2.2.2.2.2.2.2.2.2.2.2.2.2.2.1) (v.1) (v.2.1) (v.2.2.1) (v.2.2.2.1) (v.2.2.2.2.1) (v.2.2.2.2.2.1) (xs (nI i + 1).toNatClampNeg) (xs (nI i + 2).toNatClampNeg) (a 55) of_ _  hex1) hCat (vx_cwSW 4 hts gL_law_L_frame rfl rfl rfl hm_L_frame ⟨Nat.le_of_ble_eq_true rfl, Nat.le_of_ble_eq_true rfl⟩) rfl hl.1 rfl (Nat.le_of_ble_eq_true rfl) dL_law_348 ⟨by show cells + 1 ≤ 601024; omega, by show slots + 6 ≤ 7293034; omega⟩) (fun r_1 u_1 H locs hw_1 hP hD hS => ?_)
  have hP := hP.ord (X := (lwX tc a (paQ pa 14) signs len v w old hln f0 u f1 x rf ss sp ig lf ac scr rrow row trow dia kpt isk (u_1.2))) [44, 0, 1, 45, 46, 47, 48, 49, 50, 51, 52, 53, 54, 2, 3, 4, 5, 6, 7, 8, 9, 10, 11, 12, 13, 14, 15, 16, 17, 18, 19, 20, 21, 22, 23, 24, 25, 26, 27, 28, 29, 30, 31, 32, 33, 34, 35, 36, 37, 38, 39, 40, 41, 42, 43, 55] (n := 56) rfl rfl (by decide)
  have hD := hD.ord (X := (lwX tc a (paQ pa 14) signs len v w old hln f0 u f1 x rf ss sp ig lf ac scr rrow row trow dia kpt isk (u_1.2))) [44, 0, 1, 45, 46, 47, 48, 49, 50, 51, 52, 53, 54, 2, 3, 4, 5, 6, 7, 8, 9, 10, 11, 12, 13, 14, 15, 16, 17, 18, 19, 20, 21, 22, 23, 24, 25, 26, 27, 28, 29, 30, 31, 32, 33, 34, 35, 36, 37, 38, 39, 40, 41, 42, 43, 55] (n := 56) rfl rfl (by decide)
  refine lv_istore (lv' := [(5, .int r_1), (4, .int (nI i)), (3, .ref (a 55)), (2, .ref (a 47)), (1, .ref (a 0)), (0, .ref b)]) hx hb dL_law_351 hl (by decide) rfl (fun ls hl => ?_)
  refine lv_aload_n hx hb dL_law_353 rfl (lv_at hl 3 rfl) ?_
  refine lv_aload_n hx hb dL_law_354 rfl (lv_at hl 5 rfl) ?_
  refine lv_iload hx hb dL_law_355 (lv_at hl 1 rfl) ?_
  refine lv_iconst (v := 1) hx hb dL_law_357 (by decide) ?_
  refine lv_iadd hx hb dL_law_358 ?_
  refine va_sld hx hb hX hbl hbA hS (show vp_in (nI i + 1) NL by rw [show nI i + (1 : Int32) = nI (i + 1) from nI_add i 1]; exact vp_in_nI (by omega) (by omega)) dL_law_359 ?_
  refine lv_aload_n hx hb dL_law_360 rfl (lv_at hl 5 rfl) ?_
  refine lv_iload hx hb dL_law_361 (lv_at hl 1 rfl) ?_
  refine lv_iconst (v := 2) hx hb dL_law_363 (by decide) ?_
  refine lv_iadd hx hb dL_law_364 ?_
  refine va_sld hx hb hX hbl hbA hS (show vp_in (nI i + 2) NL by rw [show nI i + (2 : Int32) = nI (i + 2) from nI_add i 2]; exact vp_in_nI (by omega) (by omega)) dL_law_365 ?_
  refine fc_goiQ (isC := [47, 50]) (isR := [0, 1, 2, 3, 4, 5, 6, 7, 8, 9, 10, 11, 12, 13, 14, 15, 16, 17, 18, 19, 20, 21, 22, 23, 24, 25, 26, 27, 28, 29, 30, 31, 32, 33, 34, 35, 36, 37, 38, 39, 40, 41, 42, 43, 44, 45, 46, 48, 49, 51, 52, 53, 54, 55]) (wc := [((a 47), .inr (8, [.int rf, .ref (a 48), .int ss, .int sp, .int ig, .int lf, .ref (a 49), .ref (a 50), .ref (a 51), .ref (a 52), .int ac, .ref (a 53), .ref (a 54)])), ((a 50), .inl (tc 0, 357, .inl row))]) (wr := (((lwX tc a (paQ pa 14) signs len v w old hln f0 u f1 x rf ss sp ig lf ac scr rrow row trow dia kpt isk (u_1.2)).drop 0).take 47 ++ ((lwX tc a (paQ pa 14) signs len v w old hln f0 u f1 x rf ss sp ig lf ac scr rrow row trow dia kpt isk (u_1.2)).drop 48).take 2 ++ ((lwX tc a (paQ pa 14) signs len v w old hln f0 u f1 x rf ss sp ig lf ac scr rrow row trow dia kpt isk (u_1.2)).drop 51).take 5)) hP hD hS hA rfl rfl (by decide) (by decide) (fc_runV (isC := [47, 50]) (As := [.int (xs (nI i + 1).toNatClampNeg), .int (xs (nI i + 2).toNatClampNeg)]) (rest := []) hx hb hml hown hts hK hE hP hD hS hA (fc_mapL rfl) (by decide) (c_X8_frame l D tc (a 47) (a 48) (a 49) (a 50) (a 51) (a 52) (a 53) (a 54) rf ss sp ig lf ac row (xs (nI i + 1).toNatClampNeg) (xs (nI i + 2).toNatClampNeg) _ (hI2'.rx (by omega))) (cwV 2 hts gL_law_X8_frame rfl rfl rfl hm_X8_frame ⟨Nat.le_of_ble_eq_true rfl, Nat.le_of_ble_eq_true rfl⟩) (ci := 8) rfl rfl rfl rfl hl.1 rfl (Nat.le_of_ble_eq_true rfl) dL_law_366 ⟨by show cells + 1 + 0 ≤ 601024; omega, by show slots + 6 + 0 ≤ 7293034; omega⟩) (fun r_2 u_2 H locs hw_2 hP hD hS => ?_)
  have hP := hP.ord (X := (lwX tc a (paQ pa 14) signs len v w old hln f0 u f1 x u_2 ss sp ig lf ac scr rrow row trow dia kpt isk (u_1.2))) [0, 1, 2, 3, 4, 5, 6, 7, 8, 9, 10, 11, 12, 13, 14, 15, 16, 17, 18, 19, 20, 21, 22, 23, 24, 25, 26, 27, 28, 29, 30, 31, 32, 33, 34, 35, 36, 37, 38, 39, 40, 41, 42, 43, 44, 45, 46, 54, 47, 48, 55, 49, 50, 51, 52, 53] (n := 56) rfl rfl (by decide)
  have hD := hD.ord (X := (lwX tc a (paQ pa 14) signs len v w old hln f0 u f1 x u_2 ss sp ig lf ac scr rrow row trow dia kpt isk (u_1.2))) [0, 1, 2, 3, 4, 5, 6, 7, 8, 9, 10, 11, 12, 13, 14, 15, 16, 17, 18, 19, 20, 21, 22, 23, 24, 25, 26, 27, 28, 29, 30, 31, 32, 33, 34, 35, 36, 37, 38, 39, 40, 41, 42, 43, 44, 45, 46, 54, 47, 48, 55, 49, 50, 51, 52, 53] (n := 56) rfl rfl (by decide)
  refine lv_istore (lv' := [(6, .int r_2), (5, .int r_1), (4, .int (nI i)), (3, .ref (a 55)), (2, .ref (a 47)), (1, .ref (a 0)), (0, .ref b)]) hx hb dL_law_369 hl (by decide) rfl (fun ls hl => ?_)
  refine lv_aload_n hx hb dL_law_371 rfl (lv_at hl 4 rfl) ?_
  refine fc_goiQ (isC := [47]) (isR := [0, 1, 2, 3, 4, 5, 6, 7, 8, 9, 10, 11, 12, 13, 14, 15, 16, 17, 18, 19, 20, 21, 22, 23, 24, 25, 26, 27, 28, 29, 30, 31, 32, 33, 34, 35, 36, 37, 38, 39, 40, 41, 42, 43, 44, 45, 46, 48, 49, 50, 51, 52, 53, 54, 55]) (wc := [(a 47, .inr (8, [.int u_2, .ref (a 48), .int ss, .int sp, .int ig, .int lf, .ref (a 49), .ref (a 50), .ref (a 51), .ref (a 52), .int ac, .ref (a 53), .ref (a 54)]))]) (wr := (((lwX tc a (paQ pa 14) signs len v w old hln f0 u f1 x u_2 ss sp ig lf ac scr rrow row trow dia kpt isk (u_1.2)).drop 0).take 47 ++ ((lwX tc a (paQ pa 14) signs len v w old hln f0 u f1 x u_2 ss sp ig lf ac scr rrow row trow dia kpt isk (u_1.2)).drop 48).take 8)) hP hD hS hA rfl rfl (by decide) (by decide) (fc_runV (isC := [47]) (As := []) (rest := []) hx hb hml hown hts hK hE hP hD hS hA (fc_mapL rfl) (by decide) (c_X8_thrown l D tc (a 47) (a 48) (a 49) (a 50) (a 51) (a 52) (a 53) (a 54) u_2 ss sp ig lf ac _) (cwV 0 hts gL_law_X8_thrown rfl rfl rfl hm_X8_thrown ⟨Nat.le_of_ble_eq_true rfl, Nat.le_of_ble_eq_true rfl⟩) (ci := 8) rfl rfl rfl rfl hl.1 rfl (Nat.le_of_ble_eq_true rfl) dL_law_372 ⟨by show cells + 1 + 0 ≤ 601024; omega, by show slots + 6 + 0 ≤ 7293034; omega⟩) (fun r_3 u_3 H locs hw_3 hP hD hS => ?_)
  have hP := hP.ord (X := (lwX tc a (paQ pa 14) signs len v w old hln f0 u f1 x u_2 ss sp ig lf ac scr rrow row trow dia kpt isk (u_1.2))) [0, 1, 2, 3, 4, 5, 6, 7, 8, 9, 10, 11, 12, 13, 14, 15, 16, 17, 18, 19, 20, 21, 22, 23, 24, 25, 26, 27, 28, 29, 30, 31, 32, 33, 34, 35, 36, 37, 38, 39, 40, 41, 42, 43, 44, 45, 46, 55, 47, 48, 49, 50, 51, 52, 53, 54] (n := 56) rfl rfl (by decide)
  have hD := hD.ord (X := (lwX tc a (paQ pa 14) signs len v w old hln f0 u f1 x u_2 ss sp ig lf ac scr rrow row trow dia kpt isk (u_1.2))) [0, 1, 2, 3, 4, 5, 6, 7, 8, 9, 10, 11, 12, 13, 14, 15, 16, 17, 18, 19, 20, 21, 22, 23, 24, 25, 26, 27, 28, 29, 30, 31, 32, 33, 34, 35, 36, 37, 38, 39, 40, 41, 42, 43, 44, 45, 46, 55, 47, 48, 49, 50, 51, 52, 53, 54] (n := 56) rfl rfl (by decide)
  refine lv_iload hx hb dL_law_375 (lv_at hl 1 rfl) ?_
  rcases hp with ⟨r, e1, e2⟩ | ⟨e1, e2⟩ | ⟨e1, e2⟩
  · rcases hw_1 with ⟨f1, f2, f3⟩ | ⟨f1, f2, f3⟩ | ⟨x9, f1, f2, f3⟩
    · exact absurd (e1.symm.trans f1) (by first | exact (fun h => nomatch h) | exact (fun h => absurd (Sum.inl.inj h) (by decide)))
    · exact absurd (e1.symm.trans f1) (by first | exact (fun h => nomatch h) | exact (fun h => absurd (Sum.inl.inj h) (by decide)))
    · subst f2
      obtain rfl := Sum.inr.inj (e1.symm.trans f1)
      obtain ⟨rfl, rfl⟩ := Prod.mk.inj (e2.symm.trans hw_2)
      obtain rfl : (0 : Int32) = r_3 := hw_3
      refine lv_icmp_eq (tgt := 382) hx hb dL_law_377 (by decide) (fun _ => ?_) (fun c1 => absurd rfl c1)
      refine lv_iload hx hb dL_law_382 (lv_at hl 1 rfl) ?_
      refine lv_if_ne (tgt := 399) hx hb dL_law_384 (by decide) (fun c1 => absurd rfl c1) (fun _ => ?_)
      refine lv_aload_n hx hb dL_law_387 rfl (lv_at hl 3 rfl) ?_
      refine lv_iconst (v := 0) hx hb dL_law_388 (by decide) ?_
      refine va_lald (D := D) hx hb hK hP 55 3 rfl rfl (vp_in_iff.mpr (by decide)) dL_law_389 ?_
      refine lv_iload hx hb dL_law_390 (lv_at hl 0 rfl) ?_
      refine lv_i2l hx hb dL_law_392 rfl ?_
      refine W.lcmp hx hb dL_law_393 ?_
      refine lv_if_eq (tgt := 399) hx hb dL_law_394 (by decide) (fun _ => ?_) (fun c1 => absurd ((lg_cmp_eq _ _).mpr (by rw [f3]; exact if_pos rfl)) c1)
      refine lv_goto (tgt := 1504) hx hb dL_law_399 (by decide) ?_
      exact (kk _ _ _ _ _ _ _ _ _ _ _ _ _ _ _ _ _ _ _ _ _ _ _ _ _ H locs ls (hI0.mono (by omega)) hP hD hS (lv_sub hl [2, 3, 4, 5, 6] rfl)).widen (by omega) (by omega)
  · rcases hw_1 with ⟨f1, f2, f3⟩ | ⟨f1, f2, f3⟩ | ⟨x9, f1, f2, f3⟩
    · subst f2
      subst f3
      obtain ⟨rfl, rfl⟩ := Prod.mk.inj (e2.symm.trans hw_2)
      obtain rfl : (1 : Int32) = r_3 := hw_3
      refine lv_icmp_eq (tgt := 382) hx hb dL_law_377 (by decide) (fun _ => ?_) (fun c1 => absurd rfl c1)
      refine lv_iload hx hb dL_law_382 (lv_at hl 1 rfl) ?_
      refine lv_if_ne (tgt := 399) hx hb dL_law_384 (by decide) (fun _ => ?_) (fun c1 => absurd c1 (by decide))
      refine lv_goto (tgt := 1504) hx hb dL_law_399 (by decide) ?_
      exact (kk _ _ _ _ _ _ _ _ _ _ _ _ _ _ _ _ _ _ _ _ _ _ _ _ _ H locs ls (hI0.mono (by omega)) hP hD hS (lv_sub hl [2, 3, 4, 5, 6] rfl)).widen (by omega) (by omega)
    · exact absurd (e1.symm.trans f1) (by first | exact (fun h => nomatch h) | exact (fun h => absurd (Sum.inl.inj h) (by decide)))
    · exact absurd (e1.symm.trans f1) (by first | exact (fun h => nomatch h) | exact (fun h => absurd (Sum.inl.inj h) (by decide)))
  · rcases hw_1 with ⟨f1, f2, f3⟩ | ⟨f1, f2, f3⟩ | ⟨x9, f1, f2, f3⟩
    · exact absurd (e1.symm.trans f1) (by first | exact (fun h => nomatch h) | exact (fun h => absurd (Sum.inl.inj h) (by decide)))
    · subst f2
      subst f3
      obtain ⟨rfl, rfl⟩ := Prod.mk.inj (e2.symm.trans hw_2)
      obtain rfl : (2 : Int32) = r_3 := hw_3
      refine lv_icmp_eq (tgt := 382) hx hb dL_law_377 (by decide) (fun _ => ?_) (fun c1 => absurd rfl c1)
      refine lv_iload hx hb dL_law_382 (lv_at hl 1 rfl) ?_
      refine lv_if_ne (tgt := 399) hx hb dL_law_384 (by decide) (fun _ => ?_) (fun c1 => absurd c1 (by decide))
      refine lv_goto (tgt := 1504) hx hb dL_law_399 (by decide) ?_
      exact (kk _ _ _ _ _ _ _ _ _ _ _ _ _ _ _ _ _ _ _ _ _ _ _ _ _ H locs ls (hI0.mono (by omega)) hP hD hS (lv_sub hl [2, 3, 4, 5, 6] rfl)).widen (by omega) (by omega)
    · exact absurd (e1.symm.trans f1) (by first | exact (fun h => nomatch h) | exact (fun h => absurd (Sum.inl.inj h) (by decide)))
set_option maxHeartbeats 4000000 in
theorem hm_L_waiting : yL_waiting.cls ≠ "java/lang/invoke/MethodHandle" ∧ yL_waiting.cls ≠ "java/lang/invoke/VarHandle" ∧ (parseMethodDescriptor yL_waiting.desc).map (fun d => d.parameters.length) = some 4 := by decide +kernel
theorem hm_X8_waiting : yX8_waiting.cls = RX8 ∧ yX8_waiting.cls ≠ "java/lang/invoke/MethodHandle" ∧ yX8_waiting.cls ≠ "java/lang/invoke/VarHandle" ∧ (parseMethodDescriptor yX8_waiting.desc).map (fun d => d.parameters.length) = some 2 := by decide +kernel
set_option maxHeartbeats 8000000 in
set_option maxRecDepth 100000 in
theorem lc_waiting {signs : Nat → Int32} {len : Int32} {v w : fcSV} {old hln f0 : Int32} {u : fcSV} {f1 : Int32} {x : fcSV} {rf ss sp ig lf ac : Int32} {scr rrow row trow dia kpt isk : Nat → Int32} {of_ : Nat → Int64} (hx : p.tables.exec = Jvm.exec) (hb : c.code = cL_law) (hml : c.maxLocals = 7) (hown : s.vm.findClass RL = some m.cls) (hts : ∀ w ∈ wsL_law, w.before #[Value.ref b] s = true) (hK : va_K D vwCl (fcT tc) s) (hE : fcE A s s.heap) (hA : ∀ q : Nat, s.heap.size ≤ q → A q) (hCat : fcCat s) (hfl : l.stackTraces = false)
    (hP : va_P D vwCl (lwX tc a (paQ pa 14) signs len v w old hln f0 u f1 x rf ss sp ig lf ac scr rrow row trow dia kpt isk of_ ++ fcPool tc pa sg 14) H) (hD : va_D A (lwX tc a (paQ pa 14) signs len v w old hln f0 u f1 x rf ss sp ig lf ac scr rrow row trow dia kpt isk of_ ++ fcPool tc pa sg 14)) (hS : va_S A s.heap H locs) (hl : lv_has ls 7 [(4, .int (nI i)), (3, .ref (a 55)), (2, .ref (a 47)), (1, .ref (a 0)), (0, .ref b)]) (hI : lwI Bd sg signs len v old hln f0 u f1 x ss ac scr row dia kpt isk) (hB : Bd + 8000 < 1000000000) (hf : cells + 2 ≤ 601024 ∧ slots + 12 ≤ 7293034) (hX : va_X b NL xs s s.heap) (hbl : b < s.heap.size) (hbA : ¬ A b) (hi4 : i + 4 ≤ NL) (hNL : NL ≤ 2048)
    (kk : ∀ (sg' : Nat → fcSV) (signs : Nat → Int32) (len : Int32) (v w : fcSV) (old hln f0 : Int32) (u : fcSV) (f1 : Int32) (x : fcSV) (rf ss sp ig lf ac : Int32) (scr rrow row trow dia kpt isk : Nat → Int32) (of_ : Nat → Int64) (H : Heap) (locs : List Loc) (ls : Array Slot), lwI (Bd + 7200) sg' signs len v old hln f0 u f1 x ss ac scr row dia kpt isk → va_P D vwCl (lwX tc a (paQ pa 14) signs len v w old hln f0 u f1 x rf ss sp ig lf ac scr rrow row trow dia kpt isk of_ ++ fcPool tc pa sg' 14) H → va_D A (lwX tc a (paQ pa 14) signs len v w old hln f0 u f1 x rf ss sp ig lf ac scr rrow row trow dia kpt isk of_ ++ fcPool tc pa sg' 14) → va_S A s.heap H locs → lv_has ls 7 [(4, .int (nI i)), (3, .ref (a 55)), (2, .ref (a 47)), (1, .ref (a 0)), (0, .ref b)] → W p l e room_1 s m #[Value.ref b] below meth c H locs (cells + 2) (slots + 12) Q (F0 m 1504 ls [])) :
    W p l e room_1 s m #[Value.ref b] below meth c H locs cells slots Q (F0 m 402 ls []) := by
  have hI0 := hI
  obtain ⟨⟨L, hT⟩, hI2, ⟨o, hn, eo, eh, ea, hH⟩, hI4, hI5⟩ := hI
  have hI2' := hI2
  obtain ⟨K, W9, C, B, hR⟩ := hI2
  have hcnt := RR_cnt hR
  have hp := P_waiting (rf := rf) (ss := ss) (sp := sp) (ig := ig) (lf := lf) (ac := ac) (p0 := xs (nI i + 1).toNatClampNeg) (p1 := xs (nI i + 2).toNatClampNeg) hR
  have hex1 : ∀ E, mX7_waiting (v.2.2.2.2.2.2.1) (v.2.2.2.2.2.2.2.2.2.2.1) (v.2.2.2.2.2.2.2.1) (v.2.2.2.2.2.2.2.2.1) (v.2.2.2.2.2.2.2.2.2.1) (v.2.2.2.2.2.2.2.2.2.2.2.2.1) (v.2.2.2.2.2.2.2.2.2.2.2.1) (v.2.2.2.2.2.2.2.2.2.2.2.2.2.2.1) (v.2.2.2.2.2.2.2.2.2.2.2.2.2.1) (v.2.2.2.2.2.2.2.2.2.2.2.2.2.2.2.2.2.2.2.2.2) (v.2.2.2.2.2.2.2.2.2.2.2.2.2.2.2.1) (v.2.2.2.2.2.2.2.2.2.2.2.2.2.2.2.2.1) (v.2.2.2.2.2.2.2.2.2.2.2.2.2.2.2.2.2.1) (v.2.2.2.2.2.2.2.2.2.2.2.2.2.2.2.2.2.2.1) (v.2.2.2.2.2.2.2.2.2.2.2.2.2.2.2.2.2.2.2.1) (v.2.2.2.2.2.2.2.2.2.2.2.2.2.2.2.2.2.2.2.2.1) (v.1) (v.2.1) (v.2.2.1) (v.2.2.2.1) (v.2.2.2.2.1) (v.2.2.2.2.2.1) (xs (nI i + 1).toNatClampNeg) (xs (nI i + 2).toNatClampNeg) = Sum.inl E → E = fxE 2 ∨ E = fxE 0 := by
    intro E hE
    rcases hp with ⟨r, e1, e2⟩ | ⟨e1, e2⟩ | ⟨e1, e2⟩
    · rw [e1] at hE
      cases hE
    · exact Or.inl (Sum.inl.inj (hE.symm.trans e1))
    · exact Or.inr (Sum.inl.inj (hE.symm.trans e1))
  refine lv_aload_n hx hb dL_law_402 rfl (lv_at hl 3 rfl) ?_
  refine lv_aload_n hx hb dL_law_403 rfl (lv_at hl 4 rfl) ?_
  refine lv_iload hx hb dL_law_404 (lv_at hl 0 rfl) ?_
  refine lv_iconst (v := 1) hx hb dL_law_406 (by decide) ?_
  refine lv_iadd hx hb dL_law_407 ?_
  refine va_sld hx hb hX hbl hbA hS (show vp_in (nI i + 1) NL by rw [show nI i + (1 : Int32) = nI (i + 1) from nI_add i 1]; exact vp_in_nI (by omega) (by omega)) dL_law_408 ?_
  refine lv_aload_n hx hb dL_law_409 rfl (lv_at hl 4 rfl) ?_
  refine lv_iload hx hb dL_law_410 (lv_at hl 0 rfl) ?_
  refine lv_iconst (v := 2) hx hb dL_law_412 (by decide) ?_
  refine lv_iadd hx hb dL_law_413 ?_
  refine va_sld hx hb hX hbl hbA hS (show vp_in (nI i + 2) NL by rw [show nI i + (2 : Int32) = nI (i + 2) from nI_add i 2]; exact vp_in_nI (by omega) (by omega)) dL_law_414 ?_
  refine lv_aload_n hx hb dL_law_415 rfl (lv_at hl 1 rfl) ?_
  refine fc_goiQ (isC := [0, 3, 4, 5, 6, 7, 8, 9, 10, 11, 12, 55]) (isR := [1, 2, 13, 14, 15, 16, 17, 18, 19, 20, 21, 22, 23, 24, 25, 26, 27, 28, 29, 30, 31, 32, 33, 34, 35, 36, 37, 38, 39, 40, 41, 42, 43, 44, 45, 46, 47, 48, 49, 50, 51, 52, 53, 54]) (wc := [((a 0), .inr (7, [.ref (a 1), .ref (a 3), .ref (a 13), .ref (a 23), .ref (a 25), .ref (a 36)])), ((a 3), .inr (5, [.ref (a 4), .ref (a 5), .ref (a 7), .ref (a 9), .ref (a 11), .int (v.1), .int (v.2.1), .int (v.2.2.1), .int (v.2.2.2.1), .int (v.2.2.2.2.1), .int (v.2.2.2.2.2.1)])), ((a 4), .inl (tc 0, 3, .inl (v.2.2.2.2.2.2.1))), ((a 5), .inr (0, [.ref (a 6), .int (v.2.2.2.2.2.2.2.1), .int (v.2.2.2.2.2.2.2.2.1), .int (v.2.2.2.2.2.2.2.2.2.1)])), ((a 6), .inl (tc 0, 48, .inl (v.2.2.2.2.2.2.2.2.2.2.1))), ((a 7), .inr (1, [.ref (a 8), .int (v.2.2.2.2.2.2.2.2.2.2.2.1)])), ((a 8), .inl (tc 0, 336, .inl (v.2.2.2.2.2.2.2.2.2.2.2.2.1))), ((a 9), .inr (1, [.ref (a 10), .int (v.2.2.2.2.2.2.2.2.2.2.2.2.2.1)])), ((a 10), .inl (tc 0, 28, .inl (v.2.2.2.2.2.2.2.2.2.2.2.2.2.2.1))), ((a 11), .inr (3, [.ref (a 12), .int (v.2.2.2.2.2.2.2.2.2.2.2.2.2.2.2.1), .int (v.2.2.2.2.2.2.2.2.2.2.2.2.2.2.2.2.1), .int (v.2.2.2.2.2.2.2.2.2.2.2.2.2.2.2.2.2.1), .int (v.2.2.2.2.2.2.2.2.2.2.2.2.2.2.2.2.2.2.1), .int (v.2.2.2.2.2.2.2.2.2.2.2.2.2.2.2.2.2.2.2.1), .int (v.2.2.2.2.2.2.2.2.2.2.2.2.2.2.2.2.2.2.2.2.1)])), ((a 12), .inl (tc 0, 30, .inl (v.2.2.2.2.2.2.2.2.2.2.2.2.2.2.2.2.2.2.2.2.2))), (a 55, .inl (tc 3, 1, .inr (.inl of_)))]) (wr := (((lwX tc a (paQ pa 14) signs len v w old hln f0 u f1 x rf ss sp ig lf ac scr rrow row trow dia kpt isk of_).drop 1).take 2 ++ ((lwX tc a (paQ pa 14) signs len v w old hln f0 u f1 x rf ss sp ig lf ac scr rrow row trow dia kpt isk of_).drop 13).take 42)) hP hD hS hA rfl rfl (by decide) (by decide) (fc_runH (isC := [0, 3, 4, 5, 6, 7, 8, 9, 10, 11, 12, 55]) (As := [.ref (a 0), .int (xs (nI i + 1).toNatClampNeg), .int (xs (nI i + 2).toNatClampNeg), .ref (a 55)]) (rest := []) hx hb hml hown hts hK hE hP hD hS hA (fc_mapL rfl) (by decide) (c_L_waiting l hfl D tc (a 0) (a 1) (a 13) (a 23) (a 25) (a 36) (a 3) (a 4) (a 5) (a 6) (a 7) (a 8) (a 9) (a 10) (a 11) (a 12) (v.2.2.2.2.2.2.1) (v.2.2.2.2.2.2.2.2.2.2.1) (v.2.2.2.2.2.2.2.1) (v.2.2.2.2.2.2.2.2.1) (v.2.2.2.2.2.2.2.2.2.1) (v.2.2.2.2.2.2.2.2.2.2.2.2.1) (v.2.2.2.2.2.2.2.2.2.2.2.1) (v.2.2.2.2.2.2.2.2.2.2.2.2.2.2.1) (v.2.2.2.2.2.2.2.2.2.2.2.2.2.1) (v.2.2.2.2.2.2.2.2.2.2.2.2.2.2.2.2.2.2.2.2.2) (v.2.2.2.2.2.2.2.2.2.2.2.2.2.2.2.1) (v.2.2.2.2.2.2.2.2.2.2.2.2.2.2.2.2.1) (v.2.2.2.2.2.2.2.2.2.2.2.2.2.2.2.2.2.1) (v.2.2.2.2.2.2.2.2.2.2.2.2.2.2.2.2.2.2.1) (v.2.2.2.2.2.2.2.2.2.2.2.2.2.2.2.2.2.2.2.1) (v.2.2.2.2.2.2.2.2.2.2.2.2.2.2.2.2.2.2.2.2.1) (v.1) (v.2.1) (v.2.2.1) (v.2.2.2.1) (v.2.2.2.2.1) (v.2.2.2.2.2.1) (xs (nI i + 1).toNatClampNeg) (xs (nI i + 2).toNatClampNeg) (a 55) of_ _  hex1) hCat (vx_cwSW 4 hts gL_law_L_waiting rfl rfl rfl hm_L_waiting ⟨Nat.le_of_ble_eq_true rfl, Nat.le_of_ble_eq_true rfl⟩) rfl hl.1 rfl (Nat.le_of_ble_eq_true rfl) dL_law_416 ⟨by show cells + 1 ≤ 601024; omega, by show slots + 6 ≤ 7293034; omega⟩) (fun r_1 u_1 H locs hw_1 hP hD hS => ?_)
  have hP := hP.ord (X := (lwX tc a (paQ pa 14) signs len v w old hln f0 u f1 x rf ss sp ig lf ac scr rrow row trow dia kpt isk (u_1.2))) [44, 0, 1, 45, 46, 47, 48, 49, 50, 51, 52, 53, 54, 2, 3, 4, 5, 6, 7, 8, 9, 10, 11, 12, 13, 14, 15, 16, 17, 18, 19, 20, 21, 22, 23, 24, 25, 26, 27, 28, 29, 30, 31, 32, 33, 34, 35, 36, 37, 38, 39, 40, 41, 42, 43, 55] (n := 56) rfl rfl (by decide)
  have hD := hD.ord (X := (lwX tc a (paQ pa 14) signs len v w old hln f0 u f1 x rf ss sp ig lf ac scr rrow row trow dia kpt isk (u_1.2))) [44, 0, 1, 45, 46, 47, 48, 49, 50, 51, 52, 53, 54, 2, 3, 4, 5, 6, 7, 8, 9, 10, 11, 12, 13, 14, 15, 16, 17, 18, 19, 20, 21, 22, 23, 24, 25, 26, 27, 28, 29, 30, 31, 32, 33, 34, 35, 36, 37, 38, 39, 40, 41, 42, 43, 55] (n := 56) rfl rfl (by decide)
  refine lv_istore (lv' := [(5, .int r_1), (4, .int (nI i)), (3, .ref (a 55)), (2, .ref (a 47)), (1, .ref (a 0)), (0, .ref b)]) hx hb dL_law_419 hl (by decide) rfl (fun ls hl => ?_)
  refine lv_aload_n hx hb dL_law_421 rfl (lv_at hl 3 rfl) ?_
  refine lv_aload_n hx hb dL_law_422 rfl (lv_at hl 5 rfl) ?_
  refine lv_iload hx hb dL_law_423 (lv_at hl 1 rfl) ?_
  refine lv_iconst (v := 1) hx hb dL_law_425 (by decide) ?_
  refine lv_iadd hx hb dL_law_426 ?_
  refine va_sld hx hb hX hbl hbA hS (show vp_in (nI i + 1) NL by rw [show nI i + (1 : Int32) = nI (i + 1) from nI_add i 1]; exact vp_in_nI (by omega) (by omega)) dL_law_427 ?_
  refine lv_aload_n hx hb dL_law_428 rfl (lv_at hl 5 rfl) ?_
  refine lv_iload hx hb dL_law_429 (lv_at hl 1 rfl) ?_
  refine lv_iconst (v := 2) hx hb dL_law_431 (by decide) ?_
  refine lv_iadd hx hb dL_law_432 ?_
  refine va_sld hx hb hX hbl hbA hS (show vp_in (nI i + 2) NL by rw [show nI i + (2 : Int32) = nI (i + 2) from nI_add i 2]; exact vp_in_nI (by omega) (by omega)) dL_law_433 ?_
  refine fc_goiQ (isC := [47, 50]) (isR := [0, 1, 2, 3, 4, 5, 6, 7, 8, 9, 10, 11, 12, 13, 14, 15, 16, 17, 18, 19, 20, 21, 22, 23, 24, 25, 26, 27, 28, 29, 30, 31, 32, 33, 34, 35, 36, 37, 38, 39, 40, 41, 42, 43, 44, 45, 46, 48, 49, 51, 52, 53, 54, 55]) (wc := [((a 47), .inr (8, [.int rf, .ref (a 48), .int ss, .int sp, .int ig, .int lf, .ref (a 49), .ref (a 50), .ref (a 51), .ref (a 52), .int ac, .ref (a 53), .ref (a 54)])), ((a 50), .inl (tc 0, 357, .inl row))]) (wr := (((lwX tc a (paQ pa 14) signs len v w old hln f0 u f1 x rf ss sp ig lf ac scr rrow row trow dia kpt isk (u_1.2)).drop 0).take 47 ++ ((lwX tc a (paQ pa 14) signs len v w old hln f0 u f1 x rf ss sp ig lf ac scr rrow row trow dia kpt isk (u_1.2)).drop 48).take 2 ++ ((lwX tc a (paQ pa 14) signs len v w old hln f0 u f1 x rf ss sp ig lf ac scr rrow row trow dia kpt isk (u_1.2)).drop 51).take 5)) hP hD hS hA rfl rfl (by decide) (by decide) (fc_runV (isC := [47, 50]) (As := [.int (xs (nI i + 1).toNatClampNeg), .int (xs (nI i + 2).toNatClampNeg)]) (rest := []) hx hb hml hown hts hK hE hP hD hS hA (fc_mapL rfl) (by decide) (c_X8_waiting l D tc (a 47) (a 48) (a 49) (a 50) (a 51) (a 52) (a 53) (a 54) rf ss sp ig lf ac row (xs (nI i + 1).toNatClampNeg) (xs (nI i + 2).toNatClampNeg) _ (hI2'.rx (by omega))) (cwV 2 hts gL_law_X8_waiting rfl rfl rfl hm_X8_waiting ⟨Nat.le_of_ble_eq_true rfl, Nat.le_of_ble_eq_true rfl⟩) (ci := 8) rfl rfl rfl rfl hl.1 rfl (Nat.le_of_ble_eq_true rfl) dL_law_434 ⟨by show cells + 1 + 0 ≤ 601024; omega, by show slots + 6 + 0 ≤ 7293034; omega⟩) (fun r_2 u_2 H locs hw_2 hP hD hS => ?_)
  have hP := hP.ord (X := (lwX tc a (paQ pa 14) signs len v w old hln f0 u f1 x u_2 ss sp ig lf ac scr rrow row trow dia kpt isk (u_1.2))) [0, 1, 2, 3, 4, 5, 6, 7, 8, 9, 10, 11, 12, 13, 14, 15, 16, 17, 18, 19, 20, 21, 22, 23, 24, 25, 26, 27, 28, 29, 30, 31, 32, 33, 34, 35, 36, 37, 38, 39, 40, 41, 42, 43, 44, 45, 46, 54, 47, 48, 55, 49, 50, 51, 52, 53] (n := 56) rfl rfl (by decide)
  have hD := hD.ord (X := (lwX tc a (paQ pa 14) signs len v w old hln f0 u f1 x u_2 ss sp ig lf ac scr rrow row trow dia kpt isk (u_1.2))) [0, 1, 2, 3, 4, 5, 6, 7, 8, 9, 10, 11, 12, 13, 14, 15, 16, 17, 18, 19, 20, 21, 22, 23, 24, 25, 26, 27, 28, 29, 30, 31, 32, 33, 34, 35, 36, 37, 38, 39, 40, 41, 42, 43, 44, 45, 46, 54, 47, 48, 55, 49, 50, 51, 52, 53] (n := 56) rfl rfl (by decide)
  refine lv_istore (lv' := [(6, .int r_2), (5, .int r_1), (4, .int (nI i)), (3, .ref (a 55)), (2, .ref (a 47)), (1, .ref (a 0)), (0, .ref b)]) hx hb dL_law_437 hl (by decide) rfl (fun ls hl => ?_)
  refine lv_aload_n hx hb dL_law_439 rfl (lv_at hl 4 rfl) ?_
  refine fc_goiQ (isC := [47]) (isR := [0, 1, 2, 3, 4, 5, 6, 7, 8, 9, 10, 11, 12, 13, 14, 15, 16, 17, 18, 19, 20, 21, 22, 23, 24, 25, 26, 27, 28, 29, 30, 31, 32, 33, 34, 35, 36, 37, 38, 39, 40, 41, 42, 43, 44, 45, 46, 48, 49, 50, 51, 52, 53, 54, 55]) (wc := [(a 47, .inr (8, [.int u_2, .ref (a 48), .int ss, .int sp, .int ig, .int lf, .ref (a 49), .ref (a 50), .ref (a 51), .ref (a 52), .int ac, .ref (a 53), .ref (a 54)]))]) (wr := (((lwX tc a (paQ pa 14) signs len v w old hln f0 u f1 x u_2 ss sp ig lf ac scr rrow row trow dia kpt isk (u_1.2)).drop 0).take 47 ++ ((lwX tc a (paQ pa 14) signs len v w old hln f0 u f1 x u_2 ss sp ig lf ac scr rrow row trow dia kpt isk (u_1.2)).drop 48).take 8)) hP hD hS hA rfl rfl (by decide) (by decide) (fc_runV (isC := [47]) (As := []) (rest := []) hx hb hml hown hts hK hE hP hD hS hA (fc_mapL rfl) (by decide) (c_X8_thrown l D tc (a 47) (a 48) (a 49) (a 50) (a 51) (a 52) (a 53) (a 54) u_2 ss sp ig lf ac _) (cwV 0 hts gL_law_X8_thrown rfl rfl rfl hm_X8_thrown ⟨Nat.le_of_ble_eq_true rfl, Nat.le_of_ble_eq_true rfl⟩) (ci := 8) rfl rfl rfl rfl hl.1 rfl (Nat.le_of_ble_eq_true rfl) dL_law_440 ⟨by show cells + 1 + 0 ≤ 601024; omega, by show slots + 6 + 0 ≤ 7293034; omega⟩) (fun r_3 u_3 H locs hw_3 hP hD hS => ?_)
  have hP := hP.ord (X := (lwX tc a (paQ pa 14) signs len v w old hln f0 u f1 x u_2 ss sp ig lf ac scr rrow row trow dia kpt isk (u_1.2))) [0, 1, 2, 3, 4, 5, 6, 7, 8, 9, 10, 11, 12, 13, 14, 15, 16, 17, 18, 19, 20, 21, 22, 23, 24, 25, 26, 27, 28, 29, 30, 31, 32, 33, 34, 35, 36, 37, 38, 39, 40, 41, 42, 43, 44, 45, 46, 55, 47, 48, 49, 50, 51, 52, 53, 54] (n := 56) rfl rfl (by decide)
  have hD := hD.ord (X := (lwX tc a (paQ pa 14) signs len v w old hln f0 u f1 x u_2 ss sp ig lf ac scr rrow row trow dia kpt isk (u_1.2))) [0, 1, 2, 3, 4, 5, 6, 7, 8, 9, 10, 11, 12, 13, 14, 15, 16, 17, 18, 19, 20, 21, 22, 23, 24, 25, 26, 27, 28, 29, 30, 31, 32, 33, 34, 35, 36, 37, 38, 39, 40, 41, 42, 43, 44, 45, 46, 55, 47, 48, 49, 50, 51, 52, 53, 54] (n := 56) rfl rfl (by decide)
  refine lv_iload hx hb dL_law_443 (lv_at hl 1 rfl) ?_
  rcases hp with ⟨r, e1, e2⟩ | ⟨e1, e2⟩ | ⟨e1, e2⟩
  · rcases hw_1 with ⟨f1, f2, f3⟩ | ⟨f1, f2, f3⟩ | ⟨x9, f1, f2, f3⟩
    · exact absurd (e1.symm.trans f1) (by first | exact (fun h => nomatch h) | exact (fun h => absurd (Sum.inl.inj h) (by decide)))
    · exact absurd (e1.symm.trans f1) (by first | exact (fun h => nomatch h) | exact (fun h => absurd (Sum.inl.inj h) (by decide)))
    · subst f2
      obtain rfl := Sum.inr.inj (e1.symm.trans f1)
      obtain ⟨rfl, rfl⟩ := Prod.mk.inj (e2.symm.trans hw_2)
      obtain rfl : (0 : Int32) = r_3 := hw_3
      refine lv_icmp_eq (tgt := 450) hx hb dL_law_445 (by decide) (fun _ => ?_) (fun c1 => absurd rfl c1)
      refine lv_iload hx hb dL_law_450 (lv_at hl 1 rfl) ?_
      refine lv_if_ne (tgt := 467) hx hb dL_law_452 (by decide) (fun c1 => absurd rfl c1) (fun _ => ?_)
      refine lv_aload_n hx hb dL_law_455 rfl (lv_at hl 3 rfl) ?_
      refine lv_iconst (v := 0) hx hb dL_law_456 (by decide) ?_
      refine va_lald (D := D) hx hb hK hP 55 3 rfl rfl (vp_in_iff.mpr (by decide)) dL_law_457 ?_
      refine lv_iload hx hb dL_law_458 (lv_at hl 0 rfl) ?_
      refine lv_i2l hx hb dL_law_460 rfl ?_
      refine W.lcmp hx hb dL_law_461 ?_
      refine lv_if_eq (tgt := 467) hx hb dL_law_462 (by decide) (fun _ => ?_) (fun c1 => absurd ((lg_cmp_eq _ _).mpr (by rw [f3]; exact if_pos rfl)) c1)
      refine lv_goto (tgt := 1504) hx hb dL_law_467 (by decide) ?_
      exact (kk _ _ _ _ _ _ _ _ _ _ _ _ _ _ _ _ _ _ _ _ _ _ _ _ _ H locs ls (hI0.mono (by omega)) hP hD hS (lv_sub hl [2, 3, 4, 5, 6] rfl)).widen (by omega) (by omega)
  · rcases hw_1 with ⟨f1, f2, f3⟩ | ⟨f1, f2, f3⟩ | ⟨x9, f1, f2, f3⟩
    · subst f2
      subst f3
      obtain ⟨rfl, rfl⟩ := Prod.mk.inj (e2.symm.trans hw_2)
      obtain rfl : (1 : Int32) = r_3 := hw_3
      refine lv_icmp_eq (tgt := 450) hx hb dL_law_445 (by decide) (fun _ => ?_) (fun c1 => absurd rfl c1)
      refine lv_iload hx hb dL_law_450 (lv_at hl 1 rfl) ?_
      refine lv_if_ne (tgt := 467) hx hb dL_law_452 (by decide) (fun _ => ?_) (fun c1 => absurd c1 (by decide))
      refine lv_goto (tgt := 1504) hx hb dL_law_467 (by decide) ?_
      exact (kk _ _ _ _ _ _ _ _ _ _ _ _ _ _ _ _ _ _ _ _ _ _ _ _ _ H locs ls (hI0.mono (by omega)) hP hD hS (lv_sub hl [2, 3, 4, 5, 6] rfl)).widen (by omega) (by omega)
    · exact absurd (e1.symm.trans f1) (by first | exact (fun h => nomatch h) | exact (fun h => absurd (Sum.inl.inj h) (by decide)))
    · exact absurd (e1.symm.trans f1) (by first | exact (fun h => nomatch h) | exact (fun h => absurd (Sum.inl.inj h) (by decide)))
  · rcases hw_1 with ⟨f1, f2, f3⟩ | ⟨f1, f2, f3⟩ | ⟨x9, f1, f2, f3⟩
    · exact absurd (e1.symm.trans f1) (by first | exact (fun h => nomatch h) | exact (fun h => absurd (Sum.inl.inj h) (by decide)))
    · subst f2
      subst f3
      obtain ⟨rfl, rfl⟩ := Prod.mk.inj (e2.symm.trans hw_2)
      obtain rfl : (2 : Int32) = r_3 := hw_3
      refine lv_icmp_eq (tgt := 450) hx hb dL_law_445 (by decide) (fun _ => ?_) (fun c1 => absurd rfl c1)
      refine lv_iload hx hb dL_law_450 (lv_at hl 1 rfl) ?_
      refine lv_if_ne (tgt := 467) hx hb dL_law_452 (by decide) (fun _ => ?_) (fun c1 => absurd c1 (by decide))
      refine lv_goto (tgt := 1504) hx hb dL_law_467 (by decide) ?_
      exact (kk _ _ _ _ _ _ _ _ _ _ _ _ _ _ _ _ _ _ _ _ _ _ _ _ _ H locs ls (hI0.mono (by omega)) hP hD hS (lv_sub hl [2, 3, 4, 5, 6] rfl)).widen (by omega) (by omega)
    · exact absurd (e1.symm.trans f1) (by first | exact (fun h => nomatch h) | exact (fun h => absurd (Sum.inl.inj h) (by decide)))
set_option maxHeartbeats 4000000 in
theorem hm_L_broken : yL_broken.cls ≠ "java/lang/invoke/MethodHandle" ∧ yL_broken.cls ≠ "java/lang/invoke/VarHandle" ∧ (parseMethodDescriptor yL_broken.desc).map (fun d => d.parameters.length) = some 4 := by decide +kernel
theorem hm_X8_broken : yX8_broken.cls = RX8 ∧ yX8_broken.cls ≠ "java/lang/invoke/MethodHandle" ∧ yX8_broken.cls ≠ "java/lang/invoke/VarHandle" ∧ (parseMethodDescriptor yX8_broken.desc).map (fun d => d.parameters.length) = some 2 := by decide +kernel
set_option maxHeartbeats 8000000 in
set_option maxRecDepth 100000 in
theorem lc_broken {signs : Nat → Int32} {len : Int32} {v w : fcSV} {old hln f0 : Int32} {u : fcSV} {f1 : Int32} {x : fcSV} {rf ss sp ig lf ac : Int32} {scr rrow row trow dia kpt isk : Nat → Int32} {of_ : Nat → Int64} (hx : p.tables.exec = Jvm.exec) (hb : c.code = cL_law) (hml : c.maxLocals = 7) (hown : s.vm.findClass RL = some m.cls) (hts : ∀ w ∈ wsL_law, w.before #[Value.ref b] s = true) (hK : va_K D vwCl (fcT tc) s) (hE : fcE A s s.heap) (hA : ∀ q : Nat, s.heap.size ≤ q → A q) (hCat : fcCat s) (hfl : l.stackTraces = false)
    (hP : va_P D vwCl (lwX tc a (paQ pa 14) signs len v w old hln f0 u f1 x rf ss sp ig lf ac scr rrow row trow dia kpt isk of_ ++ fcPool tc pa sg 14) H) (hD : va_D A (lwX tc a (paQ pa 14) signs len v w old hln f0 u f1 x rf ss sp ig lf ac scr rrow row trow dia kpt isk of_ ++ fcPool tc pa sg 14)) (hS : va_S A s.heap H locs) (hl : lv_has ls 7 [(4, .int (nI i)), (3, .ref (a 55)), (2, .ref (a 47)), (1, .ref (a 0)), (0, .ref b)]) (hI : lwI Bd sg signs len v old hln f0 u f1 x ss ac scr row dia kpt isk) (hB : Bd + 8000 < 1000000000) (hf : cells + 2 ≤ 601024 ∧ slots + 12 ≤ 7293034) (hX : va_X b NL xs s s.heap) (hbl : b < s.heap.size) (hbA : ¬ A b) (hi4 : i + 4 ≤ NL) (hNL : NL ≤ 2048)
    (kk : ∀ (sg' : Nat → fcSV) (signs : Nat → Int32) (len : Int32) (v w : fcSV) (old hln f0 : Int32) (u : fcSV) (f1 : Int32) (x : fcSV) (rf ss sp ig lf ac : Int32) (scr rrow row trow dia kpt isk : Nat → Int32) (of_ : Nat → Int64) (H : Heap) (locs : List Loc) (ls : Array Slot), lwI (Bd + 7200) sg' signs len v old hln f0 u f1 x ss ac scr row dia kpt isk → va_P D vwCl (lwX tc a (paQ pa 14) signs len v w old hln f0 u f1 x rf ss sp ig lf ac scr rrow row trow dia kpt isk of_ ++ fcPool tc pa sg' 14) H → va_D A (lwX tc a (paQ pa 14) signs len v w old hln f0 u f1 x rf ss sp ig lf ac scr rrow row trow dia kpt isk of_ ++ fcPool tc pa sg' 14) → va_S A s.heap H locs → lv_has ls 7 [(4, .int (nI i)), (3, .ref (a 55)), (2, .ref (a 47)), (1, .ref (a 0)), (0, .ref b)] → W p l e room_1 s m #[Value.ref b] below meth c H locs (cells + 2) (slots + 12) Q (F0 m 1504 ls [])) :
    W p l e room_1 s m #[Value.ref b] below meth c H locs cells slots Q (F0 m 526 ls []) := by
  have hI0 := hI
  obtain ⟨⟨L, hT⟩, hI2, ⟨o, hn, eo, eh, ea, hH⟩, hI4, hI5⟩ := hI
  have hI2' := hI2
  obtain ⟨K, W9, C, B, hR⟩ := hI2
  have hcnt := RR_cnt hR
  have hp := P_broken (rf := rf) (ss := ss) (sp := sp) (ig := ig) (lf := lf) (ac := ac) (p0 := xs (nI i + 1).toNatClampNeg) (p1 := xs (nI i + 2).toNatClampNeg) hR (by omega)
  have hex1 : ∀ E, mX7_broken (v.2.2.2.2.2.2.1) (v.2.2.2.2.2.2.2.2.2.2.1) (v.2.2.2.2.2.2.2.1) (v.2.2.2.2.2.2.2.2.1) (v.2.2.2.2.2.2.2.2.2.1) (v.2.2.2.2.2.2.2.2.2.2.2.2.1) (v.2.2.2.2.2.2.2.2.2.2.2.1) (v.2.2.2.2.2.2.2.2.2.2.2.2.2.2.1) (v.2.2.2.2.2.2.2.2.2.2.2.2.2.1) (v.2.2.2.2.2.2.2.2.2.2.2.2.2.2.2.2.2.2.2.2.2) (v.2.2.2.2.2.2.2.2.2.2.2.2.2.2.2.1) (v.2.2.2.2.2.2.2.2.2.2.2.2.2.2.2.2.1) (v.2.2.2.2.2.2.2.2.2.2.2.2.2.2.2.2.2.1) (v.2.2.2.2.2.2.2.2.2.2.2.2.2.2.2.2.2.2.1) (v.2.2.2.2.2.2.2.2.2.2.2.2.2.2.2.2.2.2.2.1) (v.2.2.2.2.2.2.2.2.2.2.2.2.2.2.2.2.2.2.2.2.1) (v.1) (v.2.1) (v.2.2.1) (v.2.2.2.1) (v.2.2.2.2.1) (v.2.2.2.2.2.1) (xs (nI i + 1).toNatClampNeg) (xs (nI i + 2).toNatClampNeg) = Sum.inl E → E = fxE 2 ∨ E = fxE 0 := by
    intro E hE
    rcases hp with ⟨r, e1, e2⟩ | ⟨e1, e2⟩ | ⟨e1, e2⟩
    · rw [e1] at hE
      cases hE
    · exact Or.inl (Sum.inl.inj (hE.symm.trans e1))
    · exact Or.inr (Sum.inl.inj (hE.symm.trans e1))
  refine lv_aload_n hx hb dL_law_526 rfl (lv_at hl 3 rfl) ?_
  refine lv_aload_n hx hb dL_law_527 rfl (lv_at hl 4 rfl) ?_
  refine lv_iload hx hb dL_law_528 (lv_at hl 0 rfl) ?_
  refine lv_iconst (v := 1) hx hb dL_law_530 (by decide) ?_
  refine lv_iadd hx hb dL_law_531 ?_
  refine va_sld hx hb hX hbl hbA hS (show vp_in (nI i + 1) NL by rw [show nI i + (1 : Int32) = nI (i + 1) from nI_add i 1]; exact vp_in_nI (by omega) (by omega)) dL_law_532 ?_
  refine lv_aload_n hx hb dL_law_533 rfl (lv_at hl 4 rfl) ?_
  refine lv_iload hx hb dL_law_534 (lv_at hl 0 rfl) ?_
  refine lv_iconst (v := 2) hx hb dL_law_536 (by decide) ?_
  refine lv_iadd hx hb dL_law_537 ?_
  refine va_sld hx hb hX hbl hbA hS (show vp_in (nI i + 2) NL by rw [show nI i + (2 : Int32) = nI (i + 2) from nI_add i 2]; exact vp_in_nI (by omega) (by omega)) dL_law_538 ?_
  refine lv_aload_n hx hb dL_law_539 rfl (lv_at hl 1 rfl) ?_
  refine fc_goiQ (isC := [0, 3, 4, 5, 6, 7, 8, 9, 10, 11, 12, 55]) (isR := [1, 2, 13, 14, 15, 16, 17, 18, 19, 20, 21, 22, 23, 24, 25, 26, 27, 28, 29, 30, 31, 32, 33, 34, 35, 36, 37, 38, 39, 40, 41, 42, 43, 44, 45, 46, 47, 48, 49, 50, 51, 52, 53, 54]) (wc := [((a 0), .inr (7, [.ref (a 1), .ref (a 3), .ref (a 13), .ref (a 23), .ref (a 25), .ref (a 36)])), ((a 3), .inr (5, [.ref (a 4), .ref (a 5), .ref (a 7), .ref (a 9), .ref (a 11), .int (v.1), .int (v.2.1), .int (v.2.2.1), .int (v.2.2.2.1), .int (v.2.2.2.2.1), .int (v.2.2.2.2.2.1)])), ((a 4), .inl (tc 0, 3, .inl (v.2.2.2.2.2.2.1))), ((a 5), .inr (0, [.ref (a 6), .int (v.2.2.2.2.2.2.2.1), .int (v.2.2.2.2.2.2.2.2.1), .int (v.2.2.2.2.2.2.2.2.2.1)])), ((a 6), .inl (tc 0, 48, .inl (v.2.2.2.2.2.2.2.2.2.2.1))), ((a 7), .inr (1, [.ref (a 8), .int (v.2.2.2.2.2.2.2.2.2.2.2.1)])), ((a 8), .inl (tc 0, 336, .inl (v.2.2.2.2.2.2.2.2.2.2.2.2.1))), ((a 9), .inr (1, [.ref (a 10), .int (v.2.2.2.2.2.2.2.2.2.2.2.2.2.1)])), ((a 10), .inl (tc 0, 28, .inl (v.2.2.2.2.2.2.2.2.2.2.2.2.2.2.1))), ((a 11), .inr (3, [.ref (a 12), .int (v.2.2.2.2.2.2.2.2.2.2.2.2.2.2.2.1), .int (v.2.2.2.2.2.2.2.2.2.2.2.2.2.2.2.2.1), .int (v.2.2.2.2.2.2.2.2.2.2.2.2.2.2.2.2.2.1), .int (v.2.2.2.2.2.2.2.2.2.2.2.2.2.2.2.2.2.2.1), .int (v.2.2.2.2.2.2.2.2.2.2.2.2.2.2.2.2.2.2.2.1), .int (v.2.2.2.2.2.2.2.2.2.2.2.2.2.2.2.2.2.2.2.2.1)])), ((a 12), .inl (tc 0, 30, .inl (v.2.2.2.2.2.2.2.2.2.2.2.2.2.2.2.2.2.2.2.2.2))), (a 55, .inl (tc 3, 1, .inr (.inl of_)))]) (wr := (((lwX tc a (paQ pa 14) signs len v w old hln f0 u f1 x rf ss sp ig lf ac scr rrow row trow dia kpt isk of_).drop 1).take 2 ++ ((lwX tc a (paQ pa 14) signs len v w old hln f0 u f1 x rf ss sp ig lf ac scr rrow row trow dia kpt isk of_).drop 13).take 42)) hP hD hS hA rfl rfl (by decide) (by decide) (fc_runH (isC := [0, 3, 4, 5, 6, 7, 8, 9, 10, 11, 12, 55]) (As := [.ref (a 0), .int (xs (nI i + 1).toNatClampNeg), .int (xs (nI i + 2).toNatClampNeg), .ref (a 55)]) (rest := []) hx hb hml hown hts hK hE hP hD hS hA (fc_mapL rfl) (by decide) (c_L_broken l hfl D tc (a 0) (a 1) (a 13) (a 23) (a 25) (a 36) (a 3) (a 4) (a 5) (a 6) (a 7) (a 8) (a 9) (a 10) (a 11) (a 12) (v.2.2.2.2.2.2.1) (v.2.2.2.2.2.2.2.2.2.2.1) (v.2.2.2.2.2.2.2.1) (v.2.2.2.2.2.2.2.2.1) (v.2.2.2.2.2.2.2.2.2.1) (v.2.2.2.2.2.2.2.2.2.2.2.2.1) (v.2.2.2.2.2.2.2.2.2.2.2.1) (v.2.2.2.2.2.2.2.2.2.2.2.2.2.2.1) (v.2.2.2.2.2.2.2.2.2.2.2.2.2.1) (v.2.2.2.2.2.2.2.2.2.2.2.2.2.2.2.2.2.2.2.2.2) (v.2.2.2.2.2.2.2.2.2.2.2.2.2.2.2.1) (v.2.2.2.2.2.2.2.2.2.2.2.2.2.2.2.2.1) (v.2.2.2.2.2.2.2.2.2.2.2.2.2.2.2.2.2.1) (v.2.2.2.2.2.2.2.2.2.2.2.2.2.2.2.2.2.2.1) (v.2.2.2.2.2.2.2.2.2.2.2.2.2.2.2.2.2.2.2.1) (v.2.2.2.2.2.2.2.2.2.2.2.2.2.2.2.2.2.2.2.2.1) (v.1) (v.2.1) (v.2.2.1) (v.2.2.2.1) (v.2.2.2.2.1) (v.2.2.2.2.2.1) (xs (nI i + 1).toNatClampNeg) (xs (nI i + 2).toNatClampNeg) (a 55) of_ _  hex1) hCat (vx_cwSW 4 hts gL_law_L_broken rfl rfl rfl hm_L_broken ⟨Nat.le_of_ble_eq_true rfl, Nat.le_of_ble_eq_true rfl⟩) rfl hl.1 rfl (Nat.le_of_ble_eq_true rfl) dL_law_540 ⟨by show cells + 1 ≤ 601024; omega, by show slots + 6 ≤ 7293034; omega⟩) (fun r_1 u_1 H locs hw_1 hP hD hS => ?_)
  have hP := hP.ord (X := (lwX tc a (paQ pa 14) signs len v w old hln f0 u f1 x rf ss sp ig lf ac scr rrow row trow dia kpt isk (u_1.2))) [44, 0, 1, 45, 46, 47, 48, 49, 50, 51, 52, 53, 54, 2, 3, 4, 5, 6, 7, 8, 9, 10, 11, 12, 13, 14, 15, 16, 17, 18, 19, 20, 21, 22, 23, 24, 25, 26, 27, 28, 29, 30, 31, 32, 33, 34, 35, 36, 37, 38, 39, 40, 41, 42, 43, 55] (n := 56) rfl rfl (by decide)
  have hD := hD.ord (X := (lwX tc a (paQ pa 14) signs len v w old hln f0 u f1 x rf ss sp ig lf ac scr rrow row trow dia kpt isk (u_1.2))) [44, 0, 1, 45, 46, 47, 48, 49, 50, 51, 52, 53, 54, 2, 3, 4, 5, 6, 7, 8, 9, 10, 11, 12, 13, 14, 15, 16, 17, 18, 19, 20, 21, 22, 23, 24, 25, 26, 27, 28, 29, 30, 31, 32, 33, 34, 35, 36, 37, 38, 39, 40, 41, 42, 43, 55] (n := 56) rfl rfl (by decide)
  refine lv_istore (lv' := [(5, .int r_1), (4, .int (nI i)), (3, .ref (a 55)), (2, .ref (a 47)), (1, .ref (a 0)), (0, .ref b)]) hx hb dL_law_543 hl (by decide) rfl (fun ls hl => ?_)
  refine lv_aload_n hx hb dL_law_545 rfl (lv_at hl 3 rfl) ?_
  refine lv_aload_n hx hb dL_law_546 rfl (lv_at hl 5 rfl) ?_
  refine lv_iload hx hb dL_law_547 (lv_at hl 1 rfl) ?_
  refine lv_iconst (v := 1) hx hb dL_law_549 (by decide) ?_
  refine lv_iadd hx hb dL_law_550 ?_
  refine va_sld hx hb hX hbl hbA hS (show vp_in (nI i + 1) NL by rw [show nI i + (1 : Int32) = nI (i + 1) from nI_add i 1]; exact vp_in_nI (by omega) (by omega)) dL_law_551 ?_
  refine lv_aload_n hx hb dL_law_552 rfl (lv_at hl 5 rfl) ?_
  refine lv_iload hx hb dL_law_553 (lv_at hl 1 rfl) ?_
  refine lv_iconst (v := 2) hx hb dL_law_555 (by decide) ?_
  refine lv_iadd hx hb dL_law_556 ?_
  refine va_sld hx hb hX hbl hbA hS (show vp_in (nI i + 2) NL by rw [show nI i + (2 : Int32) = nI (i + 2) from nI_add i 2]; exact vp_in_nI (by omega) (by omega)) dL_law_557 ?_
  refine fc_goiQ (isC := [47, 50]) (isR := [0, 1, 2, 3, 4, 5, 6, 7, 8, 9, 10, 11, 12, 13, 14, 15, 16, 17, 18, 19, 20, 21, 22, 23, 24, 25, 26, 27, 28, 29, 30, 31, 32, 33, 34, 35, 36, 37, 38, 39, 40, 41, 42, 43, 44, 45, 46, 48, 49, 51, 52, 53, 54, 55]) (wc := [((a 47), .inr (8, [.int rf, .ref (a 48), .int ss, .int sp, .int ig, .int lf, .ref (a 49), .ref (a 50), .ref (a 51), .ref (a 52), .int ac, .ref (a 53), .ref (a 54)])), ((a 50), .inl (tc 0, 357, .inl row))]) (wr := (((lwX tc a (paQ pa 14) signs len v w old hln f0 u f1 x rf ss sp ig lf ac scr rrow row trow dia kpt isk (u_1.2)).drop 0).take 47 ++ ((lwX tc a (paQ pa 14) signs len v w old hln f0 u f1 x rf ss sp ig lf ac scr rrow row trow dia kpt isk (u_1.2)).drop 48).take 2 ++ ((lwX tc a (paQ pa 14) signs len v w old hln f0 u f1 x rf ss sp ig lf ac scr rrow row trow dia kpt isk (u_1.2)).drop 51).take 5)) hP hD hS hA rfl rfl (by decide) (by decide) (fc_runV (isC := [47, 50]) (As := [.int (xs (nI i + 1).toNatClampNeg), .int (xs (nI i + 2).toNatClampNeg)]) (rest := []) hx hb hml hown hts hK hE hP hD hS hA (fc_mapL rfl) (by decide) (c_X8_broken l D tc (a 47) (a 48) (a 49) (a 50) (a 51) (a 52) (a 53) (a 54) rf ss sp ig lf ac row (xs (nI i + 1).toNatClampNeg) (xs (nI i + 2).toNatClampNeg) _ (hI2'.rx (by omega))) (cwV 2 hts gL_law_X8_broken rfl rfl rfl hm_X8_broken ⟨Nat.le_of_ble_eq_true rfl, Nat.le_of_ble_eq_true rfl⟩) (ci := 8) rfl rfl rfl rfl hl.1 rfl (Nat.le_of_ble_eq_true rfl) dL_law_558 ⟨by show cells + 1 + 0 ≤ 601024; omega, by show slots + 6 + 0 ≤ 7293034; omega⟩) (fun r_2 u_2 H locs hw_2 hP hD hS => ?_)
  have hP := hP.ord (X := (lwX tc a (paQ pa 14) signs len v w old hln f0 u f1 x u_2 ss sp ig lf ac scr rrow row trow dia kpt isk (u_1.2))) [0, 1, 2, 3, 4, 5, 6, 7, 8, 9, 10, 11, 12, 13, 14, 15, 16, 17, 18, 19, 20, 21, 22, 23, 24, 25, 26, 27, 28, 29, 30, 31, 32, 33, 34, 35, 36, 37, 38, 39, 40, 41, 42, 43, 44, 45, 46, 54, 47, 48, 55, 49, 50, 51, 52, 53] (n := 56) rfl rfl (by decide)
  have hD := hD.ord (X := (lwX tc a (paQ pa 14) signs len v w old hln f0 u f1 x u_2 ss sp ig lf ac scr rrow row trow dia kpt isk (u_1.2))) [0, 1, 2, 3, 4, 5, 6, 7, 8, 9, 10, 11, 12, 13, 14, 15, 16, 17, 18, 19, 20, 21, 22, 23, 24, 25, 26, 27, 28, 29, 30, 31, 32, 33, 34, 35, 36, 37, 38, 39, 40, 41, 42, 43, 44, 45, 46, 54, 47, 48, 55, 49, 50, 51, 52, 53] (n := 56) rfl rfl (by decide)
  refine lv_istore (lv' := [(6, .int r_2), (5, .int r_1), (4, .int (nI i)), (3, .ref (a 55)), (2, .ref (a 47)), (1, .ref (a 0)), (0, .ref b)]) hx hb dL_law_561 hl (by decide) rfl (fun ls hl => ?_)
  refine lv_aload_n hx hb dL_law_563 rfl (lv_at hl 4 rfl) ?_
  refine fc_goiQ (isC := [47]) (isR := [0, 1, 2, 3, 4, 5, 6, 7, 8, 9, 10, 11, 12, 13, 14, 15, 16, 17, 18, 19, 20, 21, 22, 23, 24, 25, 26, 27, 28, 29, 30, 31, 32, 33, 34, 35, 36, 37, 38, 39, 40, 41, 42, 43, 44, 45, 46, 48, 49, 50, 51, 52, 53, 54, 55]) (wc := [(a 47, .inr (8, [.int u_2, .ref (a 48), .int ss, .int sp, .int ig, .int lf, .ref (a 49), .ref (a 50), .ref (a 51), .ref (a 52), .int ac, .ref (a 53), .ref (a 54)]))]) (wr := (((lwX tc a (paQ pa 14) signs len v w old hln f0 u f1 x u_2 ss sp ig lf ac scr rrow row trow dia kpt isk (u_1.2)).drop 0).take 47 ++ ((lwX tc a (paQ pa 14) signs len v w old hln f0 u f1 x u_2 ss sp ig lf ac scr rrow row trow dia kpt isk (u_1.2)).drop 48).take 8)) hP hD hS hA rfl rfl (by decide) (by decide) (fc_runV (isC := [47]) (As := []) (rest := []) hx hb hml hown hts hK hE hP hD hS hA (fc_mapL rfl) (by decide) (c_X8_thrown l D tc (a 47) (a 48) (a 49) (a 50) (a 51) (a 52) (a 53) (a 54) u_2 ss sp ig lf ac _) (cwV 0 hts gL_law_X8_thrown rfl rfl rfl hm_X8_thrown ⟨Nat.le_of_ble_eq_true rfl, Nat.le_of_ble_eq_true rfl⟩) (ci := 8) rfl rfl rfl rfl hl.1 rfl (Nat.le_of_ble_eq_true rfl) dL_law_564 ⟨by show cells + 1 + 0 ≤ 601024; omega, by show slots + 6 + 0 ≤ 7293034; omega⟩) (fun r_3 u_3 H locs hw_3 hP hD hS => ?_)
  have hP := hP.ord (X := (lwX tc a (paQ pa 14) signs len v w old hln f0 u f1 x u_2 ss sp ig lf ac scr rrow row trow dia kpt isk (u_1.2))) [0, 1, 2, 3, 4, 5, 6, 7, 8, 9, 10, 11, 12, 13, 14, 15, 16, 17, 18, 19, 20, 21, 22, 23, 24, 25, 26, 27, 28, 29, 30, 31, 32, 33, 34, 35, 36, 37, 38, 39, 40, 41, 42, 43, 44, 45, 46, 55, 47, 48, 49, 50, 51, 52, 53, 54] (n := 56) rfl rfl (by decide)
  have hD := hD.ord (X := (lwX tc a (paQ pa 14) signs len v w old hln f0 u f1 x u_2 ss sp ig lf ac scr rrow row trow dia kpt isk (u_1.2))) [0, 1, 2, 3, 4, 5, 6, 7, 8, 9, 10, 11, 12, 13, 14, 15, 16, 17, 18, 19, 20, 21, 22, 23, 24, 25, 26, 27, 28, 29, 30, 31, 32, 33, 34, 35, 36, 37, 38, 39, 40, 41, 42, 43, 44, 45, 46, 55, 47, 48, 49, 50, 51, 52, 53, 54] (n := 56) rfl rfl (by decide)
  refine lv_iload hx hb dL_law_567 (lv_at hl 1 rfl) ?_
  rcases hp with ⟨r, e1, e2⟩ | ⟨e1, e2⟩ | ⟨e1, e2⟩
  · rcases hw_1 with ⟨f1, f2, f3⟩ | ⟨f1, f2, f3⟩ | ⟨x9, f1, f2, f3⟩
    · exact absurd (e1.symm.trans f1) (by first | exact (fun h => nomatch h) | exact (fun h => absurd (Sum.inl.inj h) (by decide)))
    · exact absurd (e1.symm.trans f1) (by first | exact (fun h => nomatch h) | exact (fun h => absurd (Sum.inl.inj h) (by decide)))
    · subst f2
      obtain rfl := Sum.inr.inj (e1.symm.trans f1)
      obtain ⟨rfl, rfl⟩ := Prod.mk.inj (e2.symm.trans hw_2)
      obtain rfl : (0 : Int32) = r_3 := hw_3
      refine lv_icmp_eq (tgt := 574) hx hb dL_law_569 (by decide) (fun _ => ?_) (fun c1 => absurd rfl c1)
      refine lv_iload hx hb dL_law_574 (lv_at hl 1 rfl) ?_
      refine lv_if_ne (tgt := 591) hx hb dL_law_576 (by decide) (fun c1 => absurd rfl c1) (fun _ => ?_)
      refine lv_aload_n hx hb dL_law_579 rfl (lv_at hl 3 rfl) ?_
      refine lv_iconst (v := 0) hx hb dL_law_580 (by decide) ?_
      refine va_lald (D := D) hx hb hK hP 55 3 rfl rfl (vp_in_iff.mpr (by decide)) dL_law_581 ?_
      refine lv_iload hx hb dL_law_582 (lv_at hl 0 rfl) ?_
      refine lv_i2l hx hb dL_law_584 rfl ?_
      refine W.lcmp hx hb dL_law_585 ?_
      refine lv_if_eq (tgt := 591) hx hb dL_law_586 (by decide) (fun _ => ?_) (fun c1 => absurd ((lg_cmp_eq _ _).mpr (by rw [f3]; exact if_pos rfl)) c1)
      refine lv_goto (tgt := 1504) hx hb dL_law_591 (by decide) ?_
      exact (kk _ _ _ _ _ _ _ _ _ _ _ _ _ _ _ _ _ _ _ _ _ _ _ _ _ H locs ls (hI0.mono (by omega)) hP hD hS (lv_sub hl [2, 3, 4, 5, 6] rfl)).widen (by omega) (by omega)
  · rcases hw_1 with ⟨f1, f2, f3⟩ | ⟨f1, f2, f3⟩ | ⟨x9, f1, f2, f3⟩
    · subst f2
      subst f3
      obtain ⟨rfl, rfl⟩ := Prod.mk.inj (e2.symm.trans hw_2)
      obtain rfl : (1 : Int32) = r_3 := hw_3
      refine lv_icmp_eq (tgt := 574) hx hb dL_law_569 (by decide) (fun _ => ?_) (fun c1 => absurd rfl c1)
      refine lv_iload hx hb dL_law_574 (lv_at hl 1 rfl) ?_
      refine lv_if_ne (tgt := 591) hx hb dL_law_576 (by decide) (fun _ => ?_) (fun c1 => absurd c1 (by decide))
      refine lv_goto (tgt := 1504) hx hb dL_law_591 (by decide) ?_
      exact (kk _ _ _ _ _ _ _ _ _ _ _ _ _ _ _ _ _ _ _ _ _ _ _ _ _ H locs ls (hI0.mono (by omega)) hP hD hS (lv_sub hl [2, 3, 4, 5, 6] rfl)).widen (by omega) (by omega)
    · exact absurd (e1.symm.trans f1) (by first | exact (fun h => nomatch h) | exact (fun h => absurd (Sum.inl.inj h) (by decide)))
    · exact absurd (e1.symm.trans f1) (by first | exact (fun h => nomatch h) | exact (fun h => absurd (Sum.inl.inj h) (by decide)))
  · rcases hw_1 with ⟨f1, f2, f3⟩ | ⟨f1, f2, f3⟩ | ⟨x9, f1, f2, f3⟩
    · exact absurd (e1.symm.trans f1) (by first | exact (fun h => nomatch h) | exact (fun h => absurd (Sum.inl.inj h) (by decide)))
    · subst f2
      subst f3
      obtain ⟨rfl, rfl⟩ := Prod.mk.inj (e2.symm.trans hw_2)
      obtain rfl : (2 : Int32) = r_3 := hw_3
      refine lv_icmp_eq (tgt := 574) hx hb dL_law_569 (by decide) (fun _ => ?_) (fun c1 => absurd rfl c1)
      refine lv_iload hx hb dL_law_574 (lv_at hl 1 rfl) ?_
      refine lv_if_ne (tgt := 591) hx hb dL_law_576 (by decide) (fun _ => ?_) (fun c1 => absurd c1 (by decide))
      refine lv_goto (tgt := 1504) hx hb dL_law_591 (by decide) ?_
      exact (kk _ _ _ _ _ _ _ _ _ _ _ _ _ _ _ _ _ _ _ _ _ _ _ _ _ H locs ls (hI0.mono (by omega)) hP hD hS (lv_sub hl [2, 3, 4, 5, 6] rfl)).widen (by omega) (by omega)
    · exact absurd (e1.symm.trans f1) (by first | exact (fun h => nomatch h) | exact (fun h => absurd (Sum.inl.inj h) (by decide)))
end
