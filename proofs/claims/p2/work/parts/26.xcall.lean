set_option maxHeartbeats 4000000 in
set_option maxRecDepth 100000 in
/-- call(): answers, or throws one of the six; the invariant stays -/
theorem x_X6_call (l : Launch) (hst : l.stackTraces = false) (D : va_G) (cI : ClassId) (a : Nat → Nat) (sz : Nat) (g : Nat → Int32) (d : Nat → UInt64) (F : Nat → Nat → Int32) (hI : CI g d) (hl5 : (g 0).toInt ≤ 5) : vx_Met l yX6_call wsX6_callp ({ frames := 35, cells := 1, slots := 6, locals := 800 }) (gPz (KX D cI) D (cw cI a g d F) sz [.ref (a 0)]) (va_Qi (fun (r : Int32) (u : SS) => (True) ∧ CP g F u) (gB D (wfC cI a) (va_A (cw cI a g d F) sz)) (va_A (cw cI a g d F) sz)) (vx_X (fun u : SS => CP g F u) (fun E u t => E ∈ exs ∧ gB D (wfC cI a) (va_A (cw cI a g d F) sz) u t) (va_A (cw cI a g d F) sz)) 1 6 (va_A (cw cI a g d F) sz) := by
  refine vx_ofW (cc := cX6_call) (maxL := 1) (ret := (some .int)) (by decide) rfl ?_
  intro p e s m args below meth c s₁ B hml htab hv
  obtain ⟨rfl, hsz, hP, hD0, hKX, hZ⟩ := hv
  have hKK := hKX.1
  have hx := B.exec
  have hb := B.bytes
  have hr := B.returns
  have hts := atoms_spec (ws := wsX6_callp) B.pre
  have hown : s.vm.findClass RX6 = some m.cls := findClass_of_methodNamed B.named
  have hlocks := B.notSynchronized
  subst hsz
  have hK := hKK.1
  have hok := KC_ok D cI
  have hD := hD0.self (sz := s.heap.size)
  generalize hAe : va_A (cw cI a g d F) s.heap.size = A at hD hZ ⊢
  have hi6 : ∀ w ∈ wsX60, w ∈ wsX6_callp := fun w h => List.mem_cons_of_mem _ (List.mem_append_left _ (List.mem_append_left _ (List.mem_append_left _ (List.mem_append_left _ (List.mem_append_left _ (List.mem_append_left _ (List.mem_append_right _ h)))))))
  have hi5 : ∀ w ∈ wsX50, w ∈ wsX6_callp := fun w h => List.mem_cons_of_mem _ (List.mem_append_left _ (List.mem_append_left _ (List.mem_append_left _ (List.mem_append_left _ (List.mem_append_left _ (List.mem_append_right _ h))))))
  have hi2 : ∀ w ∈ wsX20, w ∈ wsX6_callp := fun w h => List.mem_cons_of_mem _ (List.mem_append_left _ (List.mem_append_left _ (List.mem_append_left _ (List.mem_append_left _ (List.mem_append_right _ h)))))
  have hi1 : ∀ w ∈ wsX10, w ∈ wsX6_callp := fun w h => List.mem_cons_of_mem _ (List.mem_append_left _ (List.mem_append_left _ (List.mem_append_left _ (List.mem_append_right _ h))))
  have hi0 : ∀ w ∈ wsX00, w ∈ wsX6_callp := fun w h => List.mem_cons_of_mem _ (List.mem_append_left _ (List.mem_append_left _ (List.mem_append_right _ h)))
  have hi3 : ∀ w ∈ wsX30, w ∈ wsX6_callp := fun w h => List.mem_cons_of_mem _ (List.mem_append_left _ (List.mem_append_right _ h))
  have hi4 : ∀ w ∈ wsX40, w ∈ wsX6_callp := fun w h => List.mem_cons_of_mem _ (List.mem_append_right _ h)
  have hA : ∀ q : Nat, s.heap.size ≤ q → A q := fun q h => by rw [← hAe]; exact Or.inr h
  have hS : va_S A s.heap s.heap [] := va_S.rf
  have hl := lv_entry ([.ref (a 0)]) (n := 1) (Nat.le_of_ble_eq_true rfl)
  rw [lg_entry_eq]
  generalize (lg_sl ([.ref (a 0)]) ++ List.replicate (1 - (lg_sl ([.ref (a 0)])).length) Slot.unset).toArray = ls at hl ⊢
  have hl : lv_has ls 1 [(0, .ref (a 0))] := hl
  refine lv_aload_n hx hb dX6_call_0 rfl (lv_at hl 0 rfl) ?_
  refine lv_aload_n hx hb dX6_call_1 rfl (lv_at hl 0 rfl) ?_
  refine va_get (D := D) (ci := 6) (v := .int (g 0)) (C := RX6) (T := TX6) (N := 11) hx hb hts hi6 hown hK hP 0 rfl rfl 7 (by decide) (hts (.fieldLink RX6 59 "GuardedCalls" "laid" "I") (by decide +kernel)) (fun _ h9 => h9) rfl dX6_call_2 ?_
  refine lv_ldc (v := 2147483647) hx hb hown (hts (.constant RX6 154 (2147483647)) (by decide +kernel)) dX6_call_5 ?_
  refine gc_vi (As := [.int (g 0), .int 2147483647]) (rest := []) (w0 := cw cI a g d F) (wc := cw cI a g d F) (wr := []) (wf := wfC cI a) ⟨hx, hb, hml, hown, hts⟩ hKK hok hP hD hS hA [0, 1, 2, 3, 4, 5, 6, 7, 8, 9, 10, 11] [] rfl rfl (by decide) (s_goIn 5 l D cI a _ g d F (g 0) 2147483647 hI hl5) (cwV 2 hts gX6_callp_X6_goIn rfl rfl rfl (by decide +kernel) ⟨Nat.le_of_ble_eq_true rfl, Nat.le_of_ble_eq_true rfl⟩) (va_recv hK hP (ci := 6) (q0 := 0) rfl rfl) rfl hl.1 rfl (Nat.le_of_ble_eq_true rfl) dX6_call_7 ⟨Nat.le_of_ble_eq_true rfl, Nat.le_of_ble_eq_true rfl⟩ (fun r1 u1 H locs hw1 hP hD hS => ?_)
  obtain ⟨g1, d1, F1⟩ := u1
  have hP : va_P D vwCl (cw cI a g1 d1 F1) H := hP
  have hD : va_D A (cw cI a g1 d1 F1) := hD
  have hxx : ∀ E ∈ exs, ∀ t : State, s.vm.Alike t.vm → H.size ≤ t.heap.size → (∀ q : Nat, q < H.size → t.heap[q]? = H[q]?) → vx_X (fun u : SS => CP g F u) (fun E u t => E ∈ exs ∧ gB D (wfC cI a) A u t) A E s t := fun E hE t _ hz hq => ⟨(g1, d1, F1), hw1.2, ⟨hE, fun k q hk => (hP k q hk).kept (hq q.1 (hP k q hk).lt), hD⟩, Nat.le_trans hS.1 hz, fun q h1 h2 => (hq q (Nat.lt_of_lt_of_le h1 hS.1)).trans (hS.2.1 q h1 h2)⟩
  obtain ⟨⟨sa0, hsa0⟩, ⟨sa1, hsa1⟩, ⟨sa2, hsa2⟩, ⟨sa3, hsa3⟩, ⟨sa4, hsa4⟩, ⟨sa5, hsa5⟩⟩ := hKX.2.2.1
  by_cases h0 : r1 = 1
  · refine lv_lookup (off := 58) (tgt := 68) hx hb dX6_call_10 (by decide) (by rw [h0]; decide) (by decide) ?_
    exact vx_throwS hx hb hst (own := RX6) (cls := "java/lang/IllegalStateException") (text := "the breaker refused") (names := ["java/lang/RuntimeException", "java/lang/Exception"]) (ik := 163) (is := 165) (ic := 167) hown (by decide +kernel) (by decide +kernel) (hts (.classLink RX6 163 "java/lang/IllegalStateException") (by decide +kernel)) (hts (.initialized "java/lang/IllegalStateException") (by decide +kernel)) hsa0 (fun w h => va_Nw.use (xall_tab w (List.mem_append_left _ (List.mem_append_left _ (List.mem_append_left _ (List.mem_append_left _ (List.mem_append_left _ h)))))) (hKX.2.1 w (List.mem_append_left _ (List.mem_append_left _ (List.mem_append_left _ (List.mem_append_left _ (List.mem_append_left _ h))))))) (by decide +kernel) hZ.1 hZ.2 hS (by rw [hml]; exact hl.1) dX6_call_68 dX6_call_71 dX6_call_72 dX6_call_74 dX6_call_77 (fun x h => (htab x h).elim) (Nat.le_of_ble_eq_true rfl) (Nat.le_of_ble_eq_true rfl) (Nat.le_of_ble_eq_true rfl) (Nat.le_of_ble_eq_true rfl) hlocks (hxx _ (by decide)) hS.2.2 (Nat.le_of_ble_eq_true rfl) (Nat.le_of_ble_eq_true rfl)
  by_cases h1 : r1 = 2
  · refine lv_lookup (off := 68) (tgt := 78) hx hb dX6_call_10 (by decide) (by rw [h1]; decide) (by decide) ?_
    exact vx_throwS hx hb hst (own := RX6) (cls := "java/lang/IndexOutOfBoundsException") (text := "the bulkhead refused") (names := ["java/lang/RuntimeException", "java/lang/Exception"]) (ik := 170) (is := 172) (ic := 174) hown (by decide +kernel) (by decide +kernel) (hts (.classLink RX6 170 "java/lang/IndexOutOfBoundsException") (by decide +kernel)) (hts (.initialized "java/lang/IndexOutOfBoundsException") (by decide +kernel)) hsa1 (fun w h => va_Nw.use (xall_tab w (List.mem_append_left _ (List.mem_append_left _ (List.mem_append_left _ (List.mem_append_left _ (List.mem_append_right _ h)))))) (hKX.2.1 w (List.mem_append_left _ (List.mem_append_left _ (List.mem_append_left _ (List.mem_append_left _ (List.mem_append_right _ h))))))) (by decide +kernel) hZ.1 hZ.2 hS (by rw [hml]; exact hl.1) dX6_call_78 dX6_call_81 dX6_call_82 dX6_call_84 dX6_call_87 (fun x h => (htab x h).elim) (Nat.le_of_ble_eq_true rfl) (Nat.le_of_ble_eq_true rfl) (Nat.le_of_ble_eq_true rfl) (Nat.le_of_ble_eq_true rfl) hlocks (hxx _ (by decide)) hS.2.2 (Nat.le_of_ble_eq_true rfl) (Nat.le_of_ble_eq_true rfl)
  by_cases h2 : r1 = 4
  · refine lv_lookup (off := 78) (tgt := 88) hx hb dX6_call_10 (by decide) (by rw [h2]; decide) (by decide) ?_
    exact vy_throwS hx hb hst (ix := 13) (rx := vy_rx) vy_x0 vy_x1 vy_x2 vy_x5 (own := RX6) (cls := "java/util/NoSuchElementException") (text := "the limiter refused") (names := ["java/lang/RuntimeException", "java/lang/Exception"]) (ik := 175) (is := 177) (ic := 179) hown (by decide +kernel) (by decide +kernel) (hts (.classLink RX6 175 "java/util/NoSuchElementException") (by decide +kernel)) (hts (.initialized "java/util/NoSuchElementException") (by decide +kernel)) hsa2 (fun w h => va_Nw.use (xall_tab w (List.mem_append_left _ (List.mem_append_left _ (List.mem_append_left _ (List.mem_append_right _ h))))) (hKX.2.1 w (List.mem_append_left _ (List.mem_append_left _ (List.mem_append_left _ (List.mem_append_right _ h)))))) (by decide +kernel) hZ.1 hZ.2 hS (by rw [hml]; exact hl.1) dX6_call_88 dX6_call_91 dX6_call_92 dX6_call_94 dX6_call_97 (fun x h => (htab x h).elim) (Nat.le_of_ble_eq_true rfl) (Nat.le_of_ble_eq_true rfl) (Nat.le_of_ble_eq_true rfl) (Nat.le_of_ble_eq_true rfl) hlocks (hxx _ (by decide)) hS.2.2 (Nat.le_of_ble_eq_true rfl) (Nat.le_of_ble_eq_true rfl)
  by_cases h3 : r1 = 8
  · refine lv_lookup (off := 88) (tgt := 98) hx hb dX6_call_10 (by decide) (by rw [h3]; decide) (by decide) ?_
    exact vx_throwS hx hb hst (own := RX6) (cls := "java/lang/ArithmeticException") (text := "cut off by the deadline") (names := ["java/lang/RuntimeException", "java/lang/Exception"]) (ik := 180) (is := 182) (ic := 184) hown (by decide +kernel) (by decide +kernel) (hts (.classLink RX6 180 "java/lang/ArithmeticException") (by decide +kernel)) (hts (.initialized "java/lang/ArithmeticException") (by decide +kernel)) hsa3 (fun w h => va_Nw.use (xall_tab w (List.mem_append_left _ (List.mem_append_left _ (List.mem_append_right _ h)))) (hKX.2.1 w (List.mem_append_left _ (List.mem_append_left _ (List.mem_append_right _ h))))) (by decide +kernel) hZ.1 hZ.2 hS (by rw [hml]; exact hl.1) dX6_call_98 dX6_call_101 dX6_call_102 dX6_call_104 dX6_call_107 (fun x h => (htab x h).elim) (Nat.le_of_ble_eq_true rfl) (Nat.le_of_ble_eq_true rfl) (Nat.le_of_ble_eq_true rfl) (Nat.le_of_ble_eq_true rfl) hlocks (hxx _ (by decide)) hS.2.2 (Nat.le_of_ble_eq_true rfl) (Nat.le_of_ble_eq_true rfl)
  by_cases h4 : r1 = 16
  · refine lv_lookup (off := 98) (tgt := 108) hx hb dX6_call_10 (by decide) (by rw [h4]; decide) (by decide) ?_
    exact vx_throwS hx hb hst (own := RX6) (cls := "java/lang/IllegalArgumentException") (text := "the supplier failed in the first way") (names := ["java/lang/RuntimeException", "java/lang/Exception"]) (ik := 185) (is := 187) (ic := 189) hown (by decide +kernel) (by decide +kernel) (hts (.classLink RX6 185 "java/lang/IllegalArgumentException") (by decide +kernel)) (hts (.initialized "java/lang/IllegalArgumentException") (by decide +kernel)) hsa4 (fun w h => va_Nw.use (xall_tab w (List.mem_append_left _ (List.mem_append_right _ h))) (hKX.2.1 w (List.mem_append_left _ (List.mem_append_right _ h)))) (by decide +kernel) hZ.1 hZ.2 hS (by rw [hml]; exact hl.1) dX6_call_108 dX6_call_111 dX6_call_112 dX6_call_114 dX6_call_117 (fun x h => (htab x h).elim) (Nat.le_of_ble_eq_true rfl) (Nat.le_of_ble_eq_true rfl) (Nat.le_of_ble_eq_true rfl) (Nat.le_of_ble_eq_true rfl) hlocks (hxx _ (by decide)) hS.2.2 (Nat.le_of_ble_eq_true rfl) (Nat.le_of_ble_eq_true rfl)
  by_cases h5 : r1 = 32
  · refine lv_lookup (off := 108) (tgt := 118) hx hb dX6_call_10 (by decide) (by rw [h5]; decide) (by decide) ?_
    exact vx_throwS hx hb hst (own := RX6) (cls := "java/lang/UnsupportedOperationException") (text := "the supplier failed in the second way") (names := ["java/lang/RuntimeException", "java/lang/Exception"]) (ik := 190) (is := 192) (ic := 194) hown (by decide +kernel) (by decide +kernel) (hts (.classLink RX6 190 "java/lang/UnsupportedOperationException") (by decide +kernel)) (hts (.initialized "java/lang/UnsupportedOperationException") (by decide +kernel)) hsa5 (fun w h => va_Nw.use (xall_tab w (List.mem_append_right _ h)) (hKX.2.1 w (List.mem_append_right _ h))) (by decide +kernel) hZ.1 hZ.2 hS (by rw [hml]; exact hl.1) dX6_call_118 dX6_call_121 dX6_call_122 dX6_call_124 dX6_call_127 (fun x h => (htab x h).elim) (Nat.le_of_ble_eq_true rfl) (Nat.le_of_ble_eq_true rfl) (Nat.le_of_ble_eq_true rfl) (Nat.le_of_ble_eq_true rfl) hlocks (hxx _ (by decide)) hS.2.2 (Nat.le_of_ble_eq_true rfl) (Nat.le_of_ble_eq_true rfl)
  refine lv_lookup (off := 118) (tgt := 128) hx hb dX6_call_10 (by decide) ((lv_osw h0 rfl).trans ((lv_osw h1 rfl).trans ((lv_osw h2 rfl).trans ((lv_osw h3 rfl).trans ((lv_osw h4 rfl).trans ((lv_osw h5 rfl).trans (rfl))))))) (by decide) ?_
  refine lv_aload_n hx hb dX6_call_128 rfl (lv_at hl 0 rfl) ?_
  refine va_get (D := D) (ci := 6) (v := .ref (a 3)) (C := RX6) (T := TX6) (N := 11) hx hb hts hi6 hown hK hP 0 rfl rfl 2 (by decide) (hts (.fieldLink RX6 30 "GuardedCalls" "supplier" "LGuardedCalls$Supplier;") (by decide +kernel)) (fun _ h9 => h9) rfl dX6_call_129 ?_
  refine va_getN (D := D) (ci := 5) (v := .int (g1 10)) (C := RX5) (T := TX5) (N := 9) hx hb hts hi5 hown hK hP 3 rfl rfl 8 (by decide) (nw_use hKK.2 (w := .fieldLinkNest "GuardedCalls" 195 "GuardedCalls$Supplier" "answer" "I" "GuardedCalls") (by decide +kernel)) (fun _ h9 => h9) rfl dX6_call_132 ?_
  refine vx_ret ?_
  refine W.widen (k := 1) (n := 6) (Nat.le_of_ble_eq_true rfl) (Nat.le_of_ble_eq_true rfl) ?_
  exact W.iret (v := g1 10) hx hb hr (fun t ht hW => ⟨⟨_, (g1, d1, F1), rfl, ⟨trivial, hw1.2⟩, by rw [ht]; exact hP, hD⟩, hS.F ht⟩) hS.2.2 dX6_call_135
