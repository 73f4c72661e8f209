/-! The law: its loop -/
section
variable {p : Program} {l : Launch} {e : Env} {s : State} {m : MethodId} {b : Nat} {below : List Frame} {meth : Method} {c : Code} {Q : State → Prop} {A : Nat → Prop}
variable {D : va_G} {tc : Nat → ClassId} {a : Nat → Nat} {pa : Nat → Nat → Nat} {NL : Nat} {xs : Nat → Int32}
set_option maxHeartbeats 8000000 in
set_option maxRecDepth 100000 in
theorem lc_loop (hx : p.tables.exec = Jvm.exec) (hb : c.code = cL_law) (hml : c.maxLocals = 7) (hown : s.vm.findClass RL = some m.cls) (hts : ∀ w ∈ wsL_law, w.before #[Value.ref b] s = true) (hK : va_K D vwCl (fcT tc) s) (hE : fcE A s s.heap) (hA : ∀ q : Nat, s.heap.size ≤ q → A q) (hCat : fcCat s) (hfl : l.stackTraces = false) (hX : va_X b NL xs s s.heap) (hbl : b < s.heap.size) (hbA : ¬ A b) (hNL : NL ≤ 2048)
    (hend : ∀ (H : Heap) (locs : List Loc) (ls : Array Slot) (cells slots : Nat), va_S A s.heap H locs → cells ≤ 601024 → slots ≤ 7293034 → W p l e room_1 s m #[Value.ref b] below meth c H locs cells slots Q (F0 m 1510 ls [])) :
    ∀ (k : Nat) (Bd i cells slots : Nat) (sg : Nat → fcSV) (signs : Nat → Int32) (len : Int32) (v w : fcSV) (old hln f0 : Int32) (u : fcSV) (f1 : Int32) (x : fcSV) (rf ss sp ig lf ac : Int32) (scr rrow row trow dia kpt isk : Nat → Int32) (of_ : Nat → Int64) (H : Heap) (locs : List Loc) (ls : Array Slot), NL ≤ i + 4 * k + 3 → i ≤ 2052 → va_P D vwCl (lwX tc a (paQ pa 14) signs len v w old hln f0 u f1 x rf ss sp ig lf ac scr rrow row trow dia kpt isk of_ ++ fcPool tc pa sg 14) H → va_D A (lwX tc a (paQ pa 14) signs len v w old hln f0 u f1 x rf ss sp ig lf ac scr rrow row trow dia kpt isk of_ ++ fcPool tc pa sg 14) → va_S A s.heap H locs → lv_has ls 7 [(4, .int (nI i)), (3, .ref (a 55)), (2, .ref (a 47)), (1, .ref (a 0)), (0, .ref b)] → lwI Bd sg signs len v old hln f0 u f1 x ss ac scr row dia kpt isk → Bd + 7200 * k + 8000 < 1000000000 → cells + 2 * k + 2 ≤ 601024 ∧ slots + 12 * k + 12 ≤ 7293034 →
      W p l e room_1 s m #[Value.ref b] below meth c H locs cells slots Q (F0 m 23 ls []) := by
  intro k
  induction k with
  | zero =>
    intro Bd i cells slots sg signs len v w old hln f0 u f1 x rf ss sp ig lf ac scr rrow row trow dia kpt isk of_ H locs ls hk hi hP hD hS hl hI hB hf
    refine lv_iload hx hb dL_law_23 (lv_at hl 0 rfl) ?_
    refine lv_aload_n hx hb dL_law_25 rfl (lv_at hl 4 rfl) ?_
    refine va_slen hx hb hX hbl hbA hS dL_law_26 ?_
    refine lv_iconst (v := 4) hx hb dL_law_27 (by decide) ?_
    refine lv_isub hx hb dL_law_28 ?_
    refine lv_icmp_gt (tgt := 1510) hx hb dL_law_29 (by decide) (fun _ => hend H locs ls cells slots hS (by omega) (by omega)) (fun q => absurd ?_ q)
    rw [fc_lt, show (Int32.ofNat NL - 4 : Int32).toInt = (NL : Int) - (4 : Nat) from pk_sub_toInt (a := NL) (b := 4) (by omega) (by omega), fc_nI (by omega)]
    omega
  | succ k ih =>
    intro Bd i cells slots sg signs len v w old hln f0 u f1 x rf ss sp ig lf ac scr rrow row trow dia kpt isk of_ H locs ls hk hi hP hD hS hl hI hB hf
    refine lv_iload hx hb dL_law_23 (lv_at hl 0 rfl) ?_
    refine lv_aload_n hx hb dL_law_25 rfl (lv_at hl 4 rfl) ?_
    refine va_slen hx hb hX hbl hbA hS dL_law_26 ?_
    refine lv_iconst (v := 4) hx hb dL_law_27 (by decide) ?_
    refine lv_isub hx hb dL_law_28 ?_
    refine lv_icmp_gt (tgt := 1510) hx hb dL_law_29 (by decide) (fun _ => hend H locs ls cells slots hS (by omega) (by omega)) (fun q => ?_)
    have hi4 : i + 4 ≤ NL := by
      rw [fc_lt, show (Int32.ofNat NL - 4 : Int32).toInt = (NL : Int) - (4 : Nat) from pk_sub_toInt (a := NL) (b := 4) (by omega) (by omega), fc_nI (by omega)] at q
      omega
    have kk : ∀ (sg' : Nat → fcSV) (signs : Nat → Int32) (len : Int32) (v w : fcSV) (old hln f0 : Int32) (u : fcSV) (f1 : Int32) (x : fcSV) (rf ss sp ig lf ac : Int32) (scr rrow row trow dia kpt isk : Nat → Int32) (of_ : Nat → Int64) (H : Heap) (locs : List Loc) (ls : Array Slot), lwI (Bd + 7200) sg' signs len v old hln f0 u f1 x ss ac scr row dia kpt isk → va_P D vwCl (lwX tc a (paQ pa 14) signs len v w old hln f0 u f1 x rf ss sp ig lf ac scr rrow row trow dia kpt isk of_ ++ fcPool tc pa sg' 14) H → va_D A (lwX tc a (paQ pa 14) signs len v w old hln f0 u f1 x rf ss sp ig lf ac scr rrow row trow dia kpt isk of_ ++ fcPool tc pa sg' 14) → va_S A s.heap H locs → lv_has ls 7 [(4, .int (nI i)), (3, .ref (a 55)), (2, .ref (a 47)), (1, .ref (a 0)), (0, .ref b)] → W p l e room_1 s m #[Value.ref b] below meth c H locs (cells + 2) (slots + 12) Q (F0 m 1504 ls []) := by
      intro sg' signs len v w old hln f0 u f1 x rf ss sp ig lf ac scr rrow row trow dia kpt isk of_ H locs ls hI hP hD hS hl
      refine lv_iinc (v := nI (i + 4)) (lv' := [(4, .int (nI (i + 4))), (3, .ref (a 55)), (2, .ref (a 47)), (1, .ref (a 0)), (0, .ref b)]) hx hb dL_law_1504 hl (k := 0) rfl (by rw [show Int32.ofInt 4 = nI 4 by decide]; exact nI_add i 4) (by decide) rfl (fun ls hl => ?_)
      refine lv_goto (tgt := 23) hx hb dL_law_1507 (by decide) ?_
      exact ih (Bd + 7200) (i + 4) (cells + 2) (slots + 12) sg' signs len v w old hln f0 u f1 x rf ss sp ig lf ac scr rrow row trow dia kpt isk of_ H locs ls (by omega) (by omega) hP hD hS hl hI (by omega) ⟨by omega, by omega⟩
    have hB8 : Bd + 8000 < 1000000000 := by omega
    have hf8 : cells + 2 ≤ 601024 ∧ slots + 12 ≤ 7293034 := ⟨by omega, by omega⟩
    clear ih
    refine lv_aload_n hx hb dL_law_32 rfl (lv_at hl 4 rfl) ?_
    refine lv_iload hx hb dL_law_33 (lv_at hl 0 rfl) ?_
    refine va_sld hx hb hX hbl hbA hS (vp_in_nI (by omega) (by omega)) dL_law_35 ?_
    refine lv_bipush (v := 31) hx hb dL_law_36 (by decide) ?_
    refine lv_iand hx hb dL_law_38 ?_
    obtain ⟨j, hj, ej⟩ := pk_andE (xs (nI i).toNatClampNeg) (m := 31) 5 (by decide)
    rw [ej]
    by_cases h25 : j < 25
    · rcases (show j = 0 ∨ j = 1 ∨ j = 2 ∨ j = 3 ∨ j = 4 ∨ j = 5 ∨ j = 6 ∨ j = 7 ∨ j = 8 ∨ j = 9 ∨ j = 10 ∨ j = 11 ∨ j = 12 ∨ j = 13 ∨ j = 14 ∨ j = 15 ∨ j = 16 ∨ j = 17 ∨ j = 18 ∨ j = 19 ∨ j = 20 ∨ j = 21 ∨ j = 22 ∨ j = 23 ∨ j = 24 by omega) with rfl | rfl | rfl | rfl | rfl | rfl | rfl | rfl | rfl | rfl | rfl | rfl | rfl | rfl | rfl | rfl | rfl | rfl | rfl | rfl | rfl | rfl | rfl | rfl | rfl
      · refine lv_tableIn (off := 113) (tgt := 152) hx hb dL_law_39 (by decide +kernel) (by decide +kernel) (by decide +kernel) (by decide) ?_
        exact lc_append hx hb hml hown hts hK hE hA hCat hfl hP hD hS hl hI hB8 hf8 hX hbl hbA hi4 hNL kk
      · refine lv_tableIn (off := 169) (tgt := 208) hx hb dL_law_39 (by decide +kernel) (by decide +kernel) (by decide +kernel) (by decide) ?_
        exact lc_1 hx hb hml hown hts hK hE hA hCat hfl hP hD hS hl hI hB8 hf8 kk
      · refine lv_tableIn (off := 182) (tgt := 221) hx hb dL_law_39 (by decide +kernel) (by decide +kernel) (by decide +kernel) (by decide) ?_
        exact lc_errorPosition hx hb hml hown hts hK hE hA hCat hfl hP hD hS hl hI hB8 hf8 hX hbl hbA hi4 hNL kk
      · refine lv_tableIn (off := 195) (tgt := 234) hx hb dL_law_39 (by decide +kernel) (by decide +kernel) (by decide +kernel) (by decide) ?_
        exact lc_load hx hb hml hown hts hK hE hA hCat hfl hP hD hS hl hI hB8 hf8 hX hbl hbA hi4 hNL kk
      · refine lv_tableIn (off := 239) (tgt := 278) hx hb dL_law_39 (by decide +kernel) (by decide +kernel) (by decide +kernel) (by decide) ?_
        exact lc_about hx hb hml hown hts hK hE hA hCat hfl hP hD hS hl hI hB8 hf8 hX hbl hbA hi4 hNL kk
      · refine lv_tableIn (off := 295) (tgt := 334) hx hb dL_law_39 (by decide +kernel) (by decide +kernel) (by decide +kernel) (by decide) ?_
        exact lc_frame hx hb hml hown hts hK hE hA hCat hfl hP hD hS hl hI hB8 hf8 hX hbl hbA hi4 hNL kk
      · refine lv_tableIn (off := 363) (tgt := 402) hx hb dL_law_39 (by decide +kernel) (by decide +kernel) (by decide +kernel) (by decide) ?_
        exact lc_waiting hx hb hml hown hts hK hE hA hCat hfl hP hD hS hl hI hB8 hf8 hX hbl hbA hi4 hNL kk
      · refine lv_tableIn (off := 431) (tgt := 470) hx hb dL_law_39 (by decide +kernel) (by decide +kernel) (by decide +kernel) (by decide) ?_
        exact lc_block hx hb hml hown hts hK hE hA hCat hfl hP hD hS hl hI hB8 hf8 hX hbl hbA hi4 hNL kk
      · refine lv_tableIn (off := 487) (tgt := 526) hx hb dL_law_39 (by decide +kernel) (by decide +kernel) (by decide +kernel) (by decide) ?_
        exact lc_broken hx hb hml hown hts hK hE hA hCat hfl hP hD hS hl hI hB8 hf8 hX hbl hbA hi4 hNL kk
      · refine lv_tableIn (off := 555) (tgt := 594) hx hb dL_law_39 (by decide +kernel) (by decide +kernel) (by decide +kernel) (by decide) ?_
        exact lc_setting hx hb hml hown hts hK hE hA hCat hfl hP hD hS hl hI hB8 hf8 hX hbl hbA hi4 hNL kk
      · refine lv_tableIn (off := 611) (tgt := 650) hx hb dL_law_39 (by decide +kernel) (by decide +kernel) (by decide +kernel) (by decide) ?_
        exact lc_shoot hx hb hml hown hts hK hE hA hCat hfl hP hD hS hl hI hB8 hf8 hX hbl hbA hi4 hNL kk
      · refine lv_tableIn (off := 667) (tgt := 706) hx hb dL_law_39 (by decide +kernel) (by decide +kernel) (by decide +kernel) (by decide) ?_
        exact lc_ticks hx hb hml hown hts hK hE hA hCat hfl hP hD hS hl hI hB8 hf8 hX hbl hbA hi4 hNL kk
      · refine lv_tableIn (off := 723) (tgt := 762) hx hb dL_law_39 (by decide +kernel) (by decide +kernel) (by decide +kernel) (by decide) ?_
        exact lc_drop hx hb hml hown hts hK hE hA hCat hfl hP hD hS hl hI hB8 hf8 hX hbl hbA hi4 hNL kk
      · refine lv_tableIn (off := 779) (tgt := 818) hx hb dL_law_39 (by decide +kernel) (by decide +kernel) (by decide +kernel) (by decide) ?_
        exact lc_format hx hb hml hown hts hK hE hA hCat hfl hP hD hS hl hI hB8 hf8 hX hbl hbA hi4 hNL kk
      · refine lv_tableIn (off := 835) (tgt := 874) hx hb dL_law_39 (by decide +kernel) (by decide +kernel) (by decide +kernel) (by decide) ?_
        exact lc_set hx hb hml hown hts hK hE hA hCat hfl hP hD hS hl hI hB8 hf8 hX hbl hbA hi4 hNL kk
      · refine lv_tableIn (off := 903) (tgt := 942) hx hb dL_law_39 (by decide +kernel) (by decide +kernel) (by decide +kernel) (by decide) ?_
        exact lc_undo hx hb hml hown hts hK hE hA hCat hfl hP hD hS hl hI hB8 hf8 hX hbl hbA hi4 hNL kk
      · refine lv_tableIn (off := 947) (tgt := 986) hx hb dL_law_39 (by decide +kernel) (by decide +kernel) (by decide +kernel) (by decide) ?_
        exact lc_storedIn hx hb hml hown hts hK hE hA hCat hfl hP hD hS hl hI hB8 hf8 hX hbl hbA hi4 hNL kk
      · refine lv_tableIn (off := 1003) (tgt := 1042) hx hb dL_law_39 (by decide +kernel) (by decide +kernel) (by decide +kernel) (by decide) ?_
        exact lc_least hx hb hml hown hts hK hE hA hCat hfl hP hD hS hl hI hB8 hf8 hX hbl hbA hi4 hNL kk
      · refine lv_tableIn (off := 1016) (tgt := 1055) hx hb dL_law_39 (by decide +kernel) (by decide +kernel) (by decide +kernel) (by decide) ?_
        exact lc_room hx hb hml hown hts hK hE hA hCat hfl hP hD hS hl hI hB8 hf8 hX hbl hbA hi4 hNL kk
      · refine lv_tableIn (off := 1072) (tgt := 1111) hx hb dL_law_39 (by decide +kernel) (by decide +kernel) (by decide +kernel) (by decide) ?_
        exact lc_leastPace hx hb hml hown hts hK hE hA hCat hfl hP hD hS hl hI hB8 hf8 hX hbl hbA hi4 hNL kk
      · refine lv_tableIn (off := 1085) (tgt := 1124) hx hb dL_law_39 (by decide +kernel) (by decide +kernel) (by decide +kernel) (by decide) ?_
        exact lc_drops hx hb hml hown hts hK hE hA hCat hfl hP hD hS hl hI hB8 hf8 hX hbl hbA hi4 hNL kk
      · refine lv_tableIn (off := 1153) (tgt := 1192) hx hb dL_law_39 (by decide +kernel) (by decide +kernel) (by decide +kernel) (by decide) ?_
        exact lc_runScript hx hb hml hown hts hK hE hA hCat hfl hP hD hS hl hI hB8 hf8 hX hbl hbA hi4 hNL kk
      · refine lv_tableIn (off := 1253) (tgt := 1292) hx hb dL_law_39 (by decide +kernel) (by decide +kernel) (by decide +kernel) (by decide) ?_
        exact lc_simulate hx hb hml hown hts hK hE hA hCat hfl hP hD hS hl hI hB8 hf8 hX hbl hbA hi4 hNL kk
      · refine lv_tableIn (off := 1353) (tgt := 1392) hx hb dL_law_39 (by decide +kernel) (by decide +kernel) (by decide +kernel) (by decide) ?_
        exact lc_save hx hb hml hown hts hK hE hA hCat hfl hP hD hS hl hI hB8 hf8 hX hbl hbA hi4 hNL kk
      · refine lv_tableIn (off := 1409) (tgt := 1448) hx hb dL_law_39 (by decide +kernel) (by decide +kernel) (by decide +kernel) (by decide) ?_
        exact lc_restore hx hb hml hown hts hK hE hA hCat hfl hP hD hS hl hI hB8 hf8 hX hbl hbA hi4 hNL kk
    · refine lv_tableOut (tgt := 1504) hx hb dL_law_39 (Or.inr (by rw [fc_nI (by omega)]; omega)) (by decide) ?_
      exact (kk sg signs len v w old hln f0 u f1 x rf ss sp ig lf ac scr rrow row trow dia kpt isk of_ H locs ls (hI.mono (by omega)) hP hD hS hl).widen (by omega) (by omega)
end
