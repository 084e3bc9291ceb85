theorem LI_0 : LI cgI cdI := ⟨⟨by show vp_in 0 8; unfold vp_in; decide, by show 0 ≤ (0 : Int32).toInt ∧ (0 : Int32).toInt ≤ 8; decide, by show vp_in 0 20; unfold vp_in; decide, by show 0 ≤ (0 : Int32).toInt ∧ (0 : Int32).toInt ≤ 20; decide, by show FP.Core.val64 FP.dconst1 ≠ .nan; decide +kernel, ⟨false, 4503599627370496, -51, by show FP.Core.val64 4611686018427387904 = _; decide +kernel, by decide⟩⟩, by show 0 ≤ (0 : Int32).toInt; decide, by show (0 : Int32).toInt ≤ 5; decide⟩
theorem MI_0 : MI mgI mdI mFI := ⟨by show 0 ≤ (0 : Int32).toInt ∧ (0 : Int32).toInt ≤ 8; decide, by show 0 ≤ (0 : Int32).toInt ∧ (0 : Int32).toInt ≤ 20; decide, ⟨by show FP.Core.val64 FP.dconst1 ≠ .nan; decide +kernel, ⟨false, 4503599627370496, -51, by show FP.Core.val64 4611686018427387904 = _; decide +kernel, by decide⟩⟩, by show (1 ≤ (4 : Int32).toInt ∧ (4 : Int32).toInt ≤ 8) ∧ (1 ≤ (2 : Int32).toInt ∧ (2 : Int32).toInt ≤ 4); decide, by show ¬ (10 : Int32) = 0; decide, by show M6 0 0 2 4; exact M6_zero (by decide) (by decide), by show Stk 0 (mFI 0); exact stk_0, by show 0 ≤ (0 : Int32).toInt; decide, fun i _ => by show 0 ≤ (0 : Int32).toInt ∧ (0 : Int32).toInt ≤ 2; decide⟩
theorem RR_0 : RR cgI cFI mgI mFI := by unfold RR; first | trivial | (exact ⟨rfl, by decide, by decide⟩) | (exact ⟨rfl, fun i _ => rfl⟩)
theorem nwl_in : ∀ w ∈ nwl, w ∈ lw_tbl := by decide +kernel
theorem xin_0 : ∀ w ∈ (vx_atS RX6 167 "java/lang/IllegalStateException" ["java/lang/RuntimeException", "java/lang/Exception"]), w ∈ lw_tbl := by decide +kernel
theorem xin_1 : ∀ w ∈ (vx_atS RX6 174 "java/lang/IndexOutOfBoundsException" ["java/lang/RuntimeException", "java/lang/Exception"]), w ∈ lw_tbl := by decide +kernel
theorem xin_2 : ∀ w ∈ (vy_at RX6 179 "java/util/NoSuchElementException" 13 vy_rx ["java/lang/RuntimeException", "java/lang/Exception"]), w ∈ lw_tbl := by decide +kernel
theorem xin_3 : ∀ w ∈ (vx_atS RX6 184 "java/lang/ArithmeticException" ["java/lang/RuntimeException", "java/lang/Exception"]), w ∈ lw_tbl := by decide +kernel
theorem xin_4 : ∀ w ∈ (vx_atS RX6 189 "java/lang/IllegalArgumentException" ["java/lang/RuntimeException", "java/lang/Exception"]), w ∈ lw_tbl := by decide +kernel
theorem xin_5 : ∀ w ∈ (vx_atS RX6 194 "java/lang/UnsupportedOperationException" ["java/lang/RuntimeException", "java/lang/Exception"]), w ∈ lw_tbl := by decide +kernel
theorem xall_in : ∀ w ∈ xall, w ∈ lw_tbl := by
  intro w hw
  unfold xall at hw
  simp only [List.mem_append] at hw
  rcases hw with ((((h | h) | h) | h) | h) | h
  · exact xin_0 w h
  · exact xin_1 w h
  · exact xin_2 w h
  · exact xin_3 w h
  · exact xin_4 w h
  · exact xin_5 w h
theorem ncl_in : ∀ q ∈ ncl, Cond.not (.castable q.1 q.2) ∈ flatC (Jvm.Cond.and given_1 narrow_1) := by decide +kernel
theorem xs_of {s : State} {b : Nat} {cur : ClassId} {k : Nat} {tx : String} (hc : s.vm.findClass RX6 = some cur) (h : (Cond.stringRef RX6 k tx).before #[Value.ref b] s = true) : ∃ sa, vk_R RX6 k tx sa s := by
  obtain ⟨-, -, -, sa, -, -, -, -, -, hev⟩ := Cond.stringRef_spec hc h
  exact ⟨sa, vk_R.of h hev⟩
set_option maxHeartbeats 4000000 in
set_option maxRecDepth 100000 in
theorem law_loop {p : Program} {l : Launch} {e : Env} {s : State} {m : MethodId} {below : List Frame} {meth : Method} {c : Code} {b L : Nat} {xs : Nat → Int32} (hst : l.stackTraces = false) (hL : L ≤ 2560) (C0 : lw_At p s m meth c b L xs) {D : va_G} {cI cL : ClassId} (hKL : KLX D cI cL s) (hZ : ZZ (fun q : Nat => s.heap.size ≤ q) s s.heap) {a am : Nat → Nat} {qo : Nat} : ∀ (n j : Nat), 5 * j ≤ L → L < 5 * j + 5 * n → ∀ (fo : Nat → Int64) (g : Nat → Int32) (d : Nat → UInt64) (F : Nat → Nat → Int32) (mg : Nat → Int32) (md : Nat → UInt64) (mF : Nat → Nat → Int32) (H : Heap) (locs : List Loc) (ls : Array Slot), LI g d → MI mg md mF → RR g F mg mF → va_P D vwCl (cw cI a g d F ++ (mw cI am mg md mF ++ [(qo, .inl (cL, 1, .inr (.inl fo)))])) H → va_D (fun q : Nat => s.heap.size ≤ q) (cw cI a g d F ++ (mw cI am mg md mF ++ [(qo, .inl (cL, 1, .inr (.inl fo)))])) → va_S (fun q : Nat => s.heap.size ≤ q) s.heap H locs → lv_has ls 9 [(4, .int (nI (5 * j))), (3, .ref qo), (2, .ref (am 0)), (1, .ref (a 0)), (0, .ref b)] → W p l e room_1 s m #[Value.ref b] below meth c H locs (20 + j) (248 + 6 * j) (lw_Z below #[Value.ref b] s) (F0 m 23 ls []) := by
  intro n
  induction n with
  | zero =>
    intro j h1 h2
    exact absurd h2 (by omega)
  | succ n ih =>
    intro j h1 h2 fo g d F mg md mF H locs ls hLI hMI hRR hP hD hS hl
    obtain ⟨hx, hb, hr, hml, hown, hts, hX, hbl, hlocks, hgv⟩ := id C0
    have hbA : ¬ (fun q : Nat => s.heap.size ≤ q) b := Nat.not_le.mpr hbl
    refine lv_iload hx hb dL_law_23 (lv_at hl 0 rfl) ?_
    refine lv_aload_n hx hb dL_law_25 rfl (lv_at hl 4 rfl) ?_
    refine va_slen hx hb hX hbl hbA hS dL_law_26 ?_
    refine lv_iconst (v := 5) hx hb dL_law_27 (by decide) ?_
    refine lv_isub hx hb dL_law_28 ?_
    refine lv_topi (fun x1 e1 => ?_)
    refine lv_icmp_gt (tgt := 704) hx hb dL_law_29 (by decide) (fun c1 => ?_) (fun c1 => ?_)
    · refine lv_iconst (v := 1) hx hb dL_law_704 (by decide) ?_
      refine va_forget (fun q hq => hS.2.2 q hq) ?_
      refine W.widen (k := 660837) (n := 7113592) (by omega) (by omega) ?_
      exact lw_ret hx hb hr hlocks dL_law_705
    · have hj := lx_go hL h1 e1 c1
      have K0 : ∀ (fo : Nat → Int64) (g : Nat → Int32) (d : Nat → UInt64) (F : Nat → Nat → Int32) (mg : Nat → Int32) (md : Nat → UInt64) (mF : Nat → Nat → Int32) (H : Heap) (locs : List Loc) (ls : Array Slot), LI g d → MI mg md mF → RR g F mg mF → va_P D vwCl (cw cI a g d F ++ (mw cI am mg md mF ++ [(qo, .inl (cL, 1, .inr (.inl fo)))])) H → va_D (fun q : Nat => s.heap.size ≤ q) (cw cI a g d F ++ (mw cI am mg md mF ++ [(qo, .inl (cL, 1, .inr (.inl fo)))])) → va_S (fun q : Nat => s.heap.size ≤ q) s.heap H locs → lv_has ls 9 [(4, .int (nI (5 * j))), (3, .ref qo), (2, .ref (am 0)), (1, .ref (a 0)), (0, .ref b)] → W p l e room_1 s m #[Value.ref b] below meth c H locs (20 + (j + 1)) (248 + 6 * (j + 1)) (lw_Z below #[Value.ref b] s) (F0 m 698 ls []) := by
        intro fo g d F mg md mF H locs ls hLI hMI hRR hP hD hS hl
        refine lv_iinc (v := nI (5 * (j + 1))) (lv' := [(4, .int (nI (5 * (j + 1)))), (3, .ref qo), (2, .ref (am 0)), (1, .ref (a 0)), (0, .ref b)]) hx hb dL_law_698 hl (k := 0) rfl (sx (k := 5)) (by decide) rfl (fun ls hl => ?_)
        refine lv_goto (tgt := 23) hx hb dL_law_701 (by decide) ?_
        exact ih (j + 1) (by omega) (by omega) fo g d F mg md mF H locs ls hLI hMI hRR hP hD hS hl
      refine lv_aload_n hx hb dL_law_32 rfl (lv_at hl 4 rfl) ?_
      refine lv_iload hx hb dL_law_33 (lv_at hl 0 rfl) ?_
      refine va_sld hx hb hX hbl hbA hS (sx_in (k := 0) hj hL (by decide)) dL_law_35 ?_
      refine lv_bipush (v := 31) hx hb dL_law_36 (by decide) ?_
      refine lv_iand hx hb dL_law_38 ?_
      refine lv_topi (fun x2 e2 => ?_)
      rcases sw_16 x2 with h | h | h | h | h | h | h | h | h | h | h | h | h | h | h | h | h | h
      · refine lv_tableOut (tgt := 698) hx hb dL_law_39 h (by decide) ?_
        refine W.widen (k := 20 + (j + 1)) (n := 248 + 6 * (j + 1)) (by omega) (by omega) ?_
        exact K0 fo g d F mg md mF H locs ls hLI hMI hRR hP hD hS hl
      · refine lv_tableIn (off := 81) (tgt := 120) hx hb dL_law_39 (by rw [h]; decide) (by rw [h]; decide) (by rw [h]; rfl) (by decide) ?_
        exact law_case0 hst hL C0 hKL hZ hj hLI hMI hRR hP hD hS hl K0
      · refine lv_tableIn (off := 142) (tgt := 181) hx hb dL_law_39 (by rw [h]; decide) (by rw [h]; decide) (by rw [h]; rfl) (by decide) ?_
        exact law_case1 hst hL C0 hKL hZ hj hLI hMI hRR hP hD hS hl K0
      · refine lv_tableIn (off := 211) (tgt := 250) hx hb dL_law_39 (by rw [h]; decide) (by rw [h]; decide) (by rw [h]; rfl) (by decide) ?_
        exact law_case2 hst hL C0 hKL hZ hj hLI hMI hRR hP hD hS hl K0
      · refine lv_tableIn (off := 236) (tgt := 275) hx hb dL_law_39 (by rw [h]; decide) (by rw [h]; decide) (by rw [h]; rfl) (by decide) ?_
        exact law_case3 hst hL C0 hKL hZ hj hLI hMI hRR hP hD hS hl K0
      · refine lv_tableIn (off := 261) (tgt := 300) hx hb dL_law_39 (by rw [h]; decide) (by rw [h]; decide) (by rw [h]; rfl) (by decide) ?_
        exact law_case4 hst hL C0 hKL hZ hj hLI hMI hRR hP hD hS hl K0
      · refine lv_tableIn (off := 310) (tgt := 349) hx hb dL_law_39 (by rw [h]; decide) (by rw [h]; decide) (by rw [h]; rfl) (by decide) ?_
        exact law_case5 hst hL C0 hKL hZ hj hLI hMI hRR hP hD hS hl K0
      · refine lv_tableIn (off := 347) (tgt := 386) hx hb dL_law_39 (by rw [h]; decide) (by rw [h]; decide) (by rw [h]; rfl) (by decide) ?_
        exact law_case6 hst hL C0 hKL hZ hj hLI hMI hRR hP hD hS hl K0
      · refine lv_tableIn (off := 426) (tgt := 465) hx hb dL_law_39 (by rw [h]; decide) (by rw [h]; decide) (by rw [h]; rfl) (by decide) ?_
        exact law_case7 hst hL C0 hKL hZ hj hLI hMI hRR hP hD hS hl K0
      · refine lv_tableIn (off := 451) (tgt := 490) hx hb dL_law_39 (by rw [h]; decide) (by rw [h]; decide) (by rw [h]; rfl) (by decide) ?_
        exact law_case8 hst hL C0 hKL hZ hj hLI hMI hRR hP hD hS hl K0
      · refine lv_tableIn (off := 476) (tgt := 515) hx hb dL_law_39 (by rw [h]; decide) (by rw [h]; decide) (by rw [h]; rfl) (by decide) ?_
        exact law_case9 hst hL C0 hKL hZ hj hLI hMI hRR hP hD hS hl K0
      · refine lv_tableIn (off := 489) (tgt := 528) hx hb dL_law_39 (by rw [h]; decide) (by rw [h]; decide) (by rw [h]; rfl) (by decide) ?_
        exact law_case10 hst hL C0 hKL hZ hj hLI hMI hRR hP hD hS hl K0
      · refine lv_tableIn (off := 538) (tgt := 577) hx hb dL_law_39 (by rw [h]; decide) (by rw [h]; decide) (by rw [h]; rfl) (by decide) ?_
        exact law_case11 hst hL C0 hKL hZ hj hLI hMI hRR hP hD hS hl K0
      · refine lv_tableIn (off := 563) (tgt := 602) hx hb dL_law_39 (by rw [h]; decide) (by rw [h]; decide) (by rw [h]; rfl) (by decide) ?_
        exact law_case12 hst hL C0 hKL hZ hj hLI hMI hRR hP hD hS hl K0
      · refine lv_tableIn (off := 579) (tgt := 618) hx hb dL_law_39 (by rw [h]; decide) (by rw [h]; decide) (by rw [h]; rfl) (by decide) ?_
        exact law_case13 hst hL C0 hKL hZ hj hLI hMI hRR hP hD hS hl K0
      · refine lv_tableIn (off := 594) (tgt := 633) hx hb dL_law_39 (by rw [h]; decide) (by rw [h]; decide) (by rw [h]; rfl) (by decide) ?_
        exact law_case14 hst hL C0 hKL hZ hj hLI hMI hRR hP hD hS hl K0
      · refine lv_tableIn (off := 609) (tgt := 648) hx hb dL_law_39 (by rw [h]; decide) (by rw [h]; decide) (by rw [h]; rfl) (by decide) ?_
        exact law_case15 hst hL C0 hKL hZ hj hLI hMI hRR hP hD hS hl K0
      · refine lv_tableIn (off := 634) (tgt := 673) hx hb dL_law_39 (by rw [h]; decide) (by rw [h]; decide) (by rw [h]; rfl) (by decide) ?_
        exact law_case16 hst hL C0 hKL hZ hj hLI hMI hRR hP hD hS hl K0
