/-- a call through the policies of a level of at most n, and below -/
def GoInAt (n : Nat) : Prop := ∀ (l : Launch) (D : va_G) (cI : ClassId) (a : Nat → Nat) (sz : Nat) (g : Nat → Int32) (d : Nat → UInt64) (F : Nat → Nat → Int32) (p_lv : Int32) (p_dl : Int32), CI g d → p_lv.toInt ≤ n → Met l yX6_goIn wsX6_goIn ({ frames := (4 * n + 10), cells := 0, slots := 0, locals := (80 * n + 200) }) (gP (KC D cI) D (cw cI a g d F) sz [.ref (a 0), .int p_lv, .int p_dl]) (va_Qi (fun (r : Int32) (u : SS) => (True) ∧ CP g F u) (gB D (wfC cI a) (va_A (cw cI a g d F) sz)) (va_A (cw cI a g d F) sz)) 0 0 (va_A (cw cI a g d F) sz)
theorem lev_dn {v : Int32} {n : Nat} (h : v.toInt ≤ n + 1) (h1 : 1 ≤ v.toInt) : (v - 1).toInt ≤ n := by
  rw [i_dec h1]
  omega
theorem lt_nge {x y : Int32} (h : x < y) : ¬ y ≤ x := by
  rw [Int32.lt_iff_toInt_lt] at h
  rw [Int32.le_iff_toInt_le]
  omega
theorem lv1 {v : Int32} (h : ¬ v < 1) : 1 ≤ v.toInt := by
  rw [Int32.lt_iff_toInt_lt, show (1 : Int32).toInt = 1 from rfl] at h
  omega
set_option maxHeartbeats 4000000 in
set_option maxRecDepth 100000 in
theorem s_X6_goThroughBreaker (n : Nat) (ih : GoInAt n) (l : Launch) (D : va_G) (cI : ClassId) (a : Nat → Nat) (sz : Nat) (g : Nat → Int32) (d : Nat → UInt64) (F : Nat → Nat → Int32) (p_lv : Int32) (p_dl : Int32) (hI : CI g d) (hlev : p_lv.toInt ≤ n + 1) (h1 : 1 ≤ p_lv.toInt) : Met l yX6_goThroughBreaker wsX6_goThroughBreaker ({ frames := (4 * n + 12), cells := 0, slots := 0, locals := (80 * n + 240) }) (gP (KC D cI) D (cw cI a g d F) sz [.ref (a 0), .int p_lv, .int p_dl]) (va_Qi (fun (r : Int32) (u : SS) => (True) ∧ CP g F u) (gB D (wfC cI a) (va_A (cw cI a g d F) sz)) (va_A (cw cI a g d F) sz)) 0 0 (va_A (cw cI a g d F) sz) := by
  refine Met.ofW (cc := cX6_goThroughBreaker) (maxL := 5) (ret := (some .int)) (by decide) rfl ?_
  intro p e s m args below meth c s₁ B hml hv
  obtain ⟨rfl, hsz, hP, hD0, hKK⟩ := hv
  have hx := B.exec
  have hb := B.bytes
  have hr := B.returns
  have hts := atoms_spec (ws := wsX6_goThroughBreaker) B.pre
  have hown : s.vm.findClass RX6 = some m.cls := findClass_of_methodNamed B.named
  have hlocks := B.notSynchronized
  subst hsz
  have hK := hKK.1
  have hok := KC_ok D cI
  have hD := hD0.self (sz := s.heap.size)
  generalize hAe : va_A (cw cI a g d F) s.heap.size = A at hD ⊢
  have hi6 : ∀ w ∈ wsX60, w ∈ wsX6_goThroughBreaker := fun w h => List.mem_cons_of_mem _ (List.mem_append_left _ (List.mem_append_left _ (List.mem_append_left _ (List.mem_append_left _ (List.mem_append_left _ (List.mem_append_left _ (List.mem_append_right _ h)))))))
  have hi5 : ∀ w ∈ wsX50, w ∈ wsX6_goThroughBreaker := fun w h => List.mem_cons_of_mem _ (List.mem_append_left _ (List.mem_append_left _ (List.mem_append_left _ (List.mem_append_left _ (List.mem_append_left _ (List.mem_append_right _ h))))))
  have hi2 : ∀ w ∈ wsX20, w ∈ wsX6_goThroughBreaker := fun w h => List.mem_cons_of_mem _ (List.mem_append_left _ (List.mem_append_left _ (List.mem_append_left _ (List.mem_append_left _ (List.mem_append_right _ h)))))
  have hi1 : ∀ w ∈ wsX10, w ∈ wsX6_goThroughBreaker := fun w h => List.mem_cons_of_mem _ (List.mem_append_left _ (List.mem_append_left _ (List.mem_append_left _ (List.mem_append_right _ h))))
  have hi0 : ∀ w ∈ wsX00, w ∈ wsX6_goThroughBreaker := fun w h => List.mem_cons_of_mem _ (List.mem_append_left _ (List.mem_append_left _ (List.mem_append_right _ h)))
  have hi3 : ∀ w ∈ wsX30, w ∈ wsX6_goThroughBreaker := fun w h => List.mem_cons_of_mem _ (List.mem_append_left _ (List.mem_append_right _ h))
  have hi4 : ∀ w ∈ wsX40, w ∈ wsX6_goThroughBreaker := fun w h => List.mem_cons_of_mem _ (List.mem_append_right _ h)
  have hA : ∀ q : Nat, s.heap.size ≤ q → A q := fun q h => by rw [← hAe]; exact Or.inr h
  have hS : va_S A s.heap s.heap [] := va_S.rf
  have hP : va_P D vwCl (cw cI a g d F) s.heap := hP
  have hl := lv_entry ([.ref ((a 0)), .int p_lv, .int p_dl]) (n := 5) (Nat.le_of_ble_eq_true rfl)
  rw [lg_entry_eq]
  generalize (lg_sl ([.ref ((a 0)), .int p_lv, .int p_dl]) ++ List.replicate (5 - (lg_sl ([.ref ((a 0)), .int p_lv, .int p_dl])).length) Slot.unset).toArray = ls at hl ⊢
  have hl : lv_has ls 5 [(0, .ref ((a 0))), (1, .int p_lv), (2, .int p_dl)] := hl
  refine lv_aload_n hx hb dX6_goThroughBreaker_0 rfl (lv_at hl 0 rfl) ?_
  refine va_get (D := D) (ci := 6) (v := .ref ((a 4))) (C := RX6) (T := TX6) (N := 11) hx hb hts hi6 hown hK hP 0 rfl rfl 3 (by decide) (hts (.fieldLink RX6 37 "GuardedCalls" "breaker" "LGuardedCalls$Breaker;") (by decide +kernel)) (fun _ h9 => h9) rfl dX6_goThroughBreaker_1 ?_
  refine gc_vi (As := []) (rest := []) (w0 := cw cI a g d F) (wc := cw cI a g d F) (wr := []) (wf := wfC cI a) ⟨hx, hb, hml, hown, hts⟩ hKK hok hP hD hS hA [0, 1, 2, 3, 4, 5, 6, 7, 8, 9, 10, 11] [] rfl rfl (by decide) (s_X0_letsIn l D cI a _ g d F hI) (cwV 0 hts gX6_goThroughBreaker_X0_letsIn rfl rfl rfl (by decide +kernel) ⟨(show 2 + 1 ≤ (4 * n + 12) from by omega), (show 8 + (1 + 11) + (41) ≤ (80 * n + 240) from by omega)⟩) (va_recv hK hP (ci := 0) (q0 := 4) rfl rfl) rfl hl.1 rfl (Nat.le_of_ble_eq_true rfl) dX6_goThroughBreaker_4 ⟨Nat.le_of_ble_eq_true rfl, Nat.le_of_ble_eq_true rfl⟩ (fun r1 u1 H locs hw1 hP hD hS => ?_)
  obtain ⟨g1, d1, F1⟩ := u1
  have hP : va_P D vwCl (cw cI a g1 d1 F1) H := hP
  have hD : va_D A (cw cI a g1 d1 F1) := hD
  refine lv_if_ne (tgt := 12) hx hb dX6_goThroughBreaker_7 (by decide) (fun c2 => ?_) (fun c2 => ?_)
  · refine lv_aload_n hx hb dX6_goThroughBreaker_12 rfl (lv_at hl 0 rfl) ?_
    refine va_get (D := D) (ci := 6) (v := .ref ((a 2))) (C := RX6) (T := TX6) (N := 11) hx hb hts hi6 hown hK hP 0 rfl rfl 1 (by decide) (hts (.fieldLink RX6 21 "GuardedCalls" "clock" "LGuardedCalls$Clock;") (by decide +kernel)) (fun _ h9 => h9) rfl dX6_goThroughBreaker_13 ?_
    refine va_getN (D := D) (ci := 1) (v := .int ((g1 6))) (C := RX1) (T := TX1) (N := 2) hx hb hts hi1 hown hK hP 2 rfl rfl 1 (by decide) (nw_use hKK.2 (w := .fieldLinkNest "GuardedCalls" 221 "GuardedCalls$Clock" "now" "I" "GuardedCalls") (by decide +kernel)) (fun _ h9 => h9) rfl dX6_goThroughBreaker_16 ?_
    refine lv_istore_n (lv' := [(3, .int ((g1 6))), (0, .ref ((a 0))), (1, .int p_lv), (2, .int p_dl)]) hx hb dX6_goThroughBreaker_19 rfl hl (by decide) rfl (fun ls hl => ?_)
    refine lv_aload_n hx hb dX6_goThroughBreaker_20 rfl (lv_at hl 1 rfl) ?_
    refine lv_iload_n hx hb dX6_goThroughBreaker_21 rfl (lv_at hl 2 rfl) ?_
    refine lv_iconst (v := 1) hx hb dX6_goThroughBreaker_22 (by decide) ?_
    refine lv_isub hx hb dX6_goThroughBreaker_23 ?_
    refine lv_topi (fun x3 e3 => ?_)
    refine lv_iload_n hx hb dX6_goThroughBreaker_24 rfl (lv_at hl 3 rfl) ?_
    refine gc_vi (As := [.int x3, .int p_dl]) (rest := []) (w0 := cw cI a g1 d1 F1) (wc := cw cI a g1 d1 F1) (wr := []) (wf := wfC cI a) ⟨hx, hb, hml, hown, hts⟩ hKK hok hP hD hS hA [0, 1, 2, 3, 4, 5, 6, 7, 8, 9, 10, 11] [] rfl rfl (by decide) (ih l D cI a _ g1 d1 F1 x3 p_dl hw1.2.1 (by rw [e3]; exact lev_dn hlev h1)) (cwV 2 hts gX6_goThroughBreaker_X6_goIn rfl rfl rfl (by decide +kernel) ⟨(show (4 * n + 10) + 1 ≤ (4 * n + 12) from by omega), (show 8 + (3 + 11) + ((80 * n + 200)) ≤ (80 * n + 240) from by omega)⟩) (va_recv hK hP (ci := 6) (q0 := 0) rfl rfl) rfl hl.1 rfl (Nat.le_of_ble_eq_true rfl) dX6_goThroughBreaker_25 ⟨Nat.le_of_ble_eq_true rfl, Nat.le_of_ble_eq_true rfl⟩ (fun r4 u4 H locs hw4 hP hD hS => ?_)
    obtain ⟨g4, d4, F4⟩ := u4
    have hP : va_P D vwCl (cw cI a g4 d4 F4) H := hP
    have hD : va_D A (cw cI a g4 d4 F4) := hD
    refine lv_istore (lv' := [(4, .int r4), (3, .int ((g1 6))), (0, .ref ((a 0))), (1, .int p_lv), (2, .int p_dl)]) hx hb dX6_goThroughBreaker_28 hl (by decide) rfl (fun ls hl => ?_)
    refine lv_aload_n hx hb dX6_goThroughBreaker_30 rfl (lv_at hl 2 rfl) ?_
    refine va_get (D := D) (ci := 6) (v := .ref ((a 4))) (C := RX6) (T := TX6) (N := 11) hx hb hts hi6 hown hK hP 0 rfl rfl 3 (by decide) (hts (.fieldLink RX6 37 "GuardedCalls" "breaker" "LGuardedCalls$Breaker;") (by decide +kernel)) (fun _ h9 => h9) rfl dX6_goThroughBreaker_31 ?_
    refine lv_iload hx hb dX6_goThroughBreaker_34 (lv_at hl 0 rfl) ?_
    refine lv_if_eq (tgt := 43) hx hb dX6_goThroughBreaker_36 (by decide) (fun c5 => ?_) (fun c5 => ?_)
    · refine lv_iconst (v := 0) hx hb dX6_goThroughBreaker_43 (by decide) ?_
      refine lv_aload_n hx hb dX6_goThroughBreaker_44 rfl (lv_at hl 2 rfl) ?_
      refine va_get (D := D) (ci := 6) (v := .ref ((a 2))) (C := RX6) (T := TX6) (N := 11) hx hb hts hi6 hown hK hP 0 rfl rfl 1 (by decide) (hts (.fieldLink RX6 21 "GuardedCalls" "clock" "LGuardedCalls$Clock;") (by decide +kernel)) (fun _ h9 => h9) rfl dX6_goThroughBreaker_45 ?_
      refine va_getN (D := D) (ci := 1) (v := .int ((g4 6))) (C := RX1) (T := TX1) (N := 2) hx hb hts hi1 hown hK hP 2 rfl rfl 1 (by decide) (nw_use hKK.2 (w := .fieldLinkNest "GuardedCalls" 221 "GuardedCalls$Clock" "now" "I" "GuardedCalls") (by decide +kernel)) (fun _ h9 => h9) rfl dX6_goThroughBreaker_48 ?_
      refine lv_iload_n hx hb dX6_goThroughBreaker_51 rfl (lv_at hl 1 rfl) ?_
      refine lv_isub hx hb dX6_goThroughBreaker_52 ?_
      refine lv_topi (fun x6 e6 => ?_)
      refine gc_vv (As := [.int 0, .int x6]) (rest := []) (w0 := cw cI a g4 d4 F4) (wc := cw cI a g4 d4 F4) (wr := []) (wf := wfC cI a) ⟨hx, hb, hml, hown, hts⟩ hKK hok hP hD hS hA [0, 1, 2, 3, 4, 5, 6, 7, 8, 9, 10, 11] [] rfl rfl (by decide) (s_X0_learn l D cI a _ g4 d4 F4 0 x6 hw4.2.1) (cwV 2 hts gX6_goThroughBreaker_X0_learn rfl rfl rfl (by decide +kernel) ⟨(show 4 + 1 ≤ (4 * n + 12) from by omega), (show 8 + (3 + 11) + (81) ≤ (80 * n + 240) from by omega)⟩) (va_recv hK hP (ci := 0) (q0 := 4) rfl rfl) rfl hl.1 rfl (Nat.le_of_ble_eq_true rfl) dX6_goThroughBreaker_53 ⟨Nat.le_of_ble_eq_true rfl, Nat.le_of_ble_eq_true rfl⟩ (fun u7 H locs hw7 hP hD hS => ?_)
      obtain ⟨g7, d7, F7⟩ := u7
      have hP : va_P D vwCl (cw cI a g7 d7 F7) H := hP
      have hD : va_D A (cw cI a g7 d7 F7) := hD
      refine lv_iload hx hb dX6_goThroughBreaker_56 (lv_at hl 0 rfl) ?_
      exact W.iret (v := r4) hx hb hr (fun t ht hW => ⟨⟨_, (g7, d7, F7), rfl, ⟨trivial, hw7.2.1, (hw7.2.2.1.trans (hw4.2.2.1.trans hw1.2.2.1)), (hw7.2.2.2.1.trans (hw4.2.2.2.1.trans hw1.2.2.2.1)), (hw7.2.2.2.2.trans (hw4.2.2.2.2.trans hw1.2.2.2.2))⟩, by rw [ht]; exact hP, hD⟩, hS.F ht⟩) hS.2.2 dX6_goThroughBreaker_58
    · refine lv_iconst (v := 1) hx hb dX6_goThroughBreaker_39 (by decide) ?_
      refine lv_goto (tgt := 44) hx hb dX6_goThroughBreaker_40 (by decide) ?_
      refine lv_aload_n hx hb dX6_goThroughBreaker_44 rfl (lv_at hl 2 rfl) ?_
      refine va_get (D := D) (ci := 6) (v := .ref ((a 2))) (C := RX6) (T := TX6) (N := 11) hx hb hts hi6 hown hK hP 0 rfl rfl 1 (by decide) (hts (.fieldLink RX6 21 "GuardedCalls" "clock" "LGuardedCalls$Clock;") (by decide +kernel)) (fun _ h9 => h9) rfl dX6_goThroughBreaker_45 ?_
      refine va_getN (D := D) (ci := 1) (v := .int ((g4 6))) (C := RX1) (T := TX1) (N := 2) hx hb hts hi1 hown hK hP 2 rfl rfl 1 (by decide) (nw_use hKK.2 (w := .fieldLinkNest "GuardedCalls" 221 "GuardedCalls$Clock" "now" "I" "GuardedCalls") (by decide +kernel)) (fun _ h9 => h9) rfl dX6_goThroughBreaker_48 ?_
      refine lv_iload_n hx hb dX6_goThroughBreaker_51 rfl (lv_at hl 1 rfl) ?_
      refine lv_isub hx hb dX6_goThroughBreaker_52 ?_
      refine lv_topi (fun x8 e8 => ?_)
      refine gc_vv (As := [.int 1, .int x8]) (rest := []) (w0 := cw cI a g4 d4 F4) (wc := cw cI a g4 d4 F4) (wr := []) (wf := wfC cI a) ⟨hx, hb, hml, hown, hts⟩ hKK hok hP hD hS hA [0, 1, 2, 3, 4, 5, 6, 7, 8, 9, 10, 11] [] rfl rfl (by decide) (s_X0_learn l D cI a _ g4 d4 F4 1 x8 hw4.2.1) (cwV 2 hts gX6_goThroughBreaker_X0_learn rfl rfl rfl (by decide +kernel) ⟨(show 4 + 1 ≤ (4 * n + 12) from by omega), (show 8 + (3 + 11) + (81) ≤ (80 * n + 240) from by omega)⟩) (va_recv hK hP (ci := 0) (q0 := 4) rfl rfl) rfl hl.1 rfl (Nat.le_of_ble_eq_true rfl) dX6_goThroughBreaker_53 ⟨Nat.le_of_ble_eq_true rfl, Nat.le_of_ble_eq_true rfl⟩ (fun u9 H locs hw9 hP hD hS => ?_)
      obtain ⟨g9, d9, F9⟩ := u9
      have hP : va_P D vwCl (cw cI a g9 d9 F9) H := hP
      have hD : va_D A (cw cI a g9 d9 F9) := hD
      refine lv_iload hx hb dX6_goThroughBreaker_56 (lv_at hl 0 rfl) ?_
      exact W.iret (v := r4) hx hb hr (fun t ht hW => ⟨⟨_, (g9, d9, F9), rfl, ⟨trivial, hw9.2.1, (hw9.2.2.1.trans (hw4.2.2.1.trans hw1.2.2.1)), (hw9.2.2.2.1.trans (hw4.2.2.2.1.trans hw1.2.2.2.1)), (hw9.2.2.2.2.trans (hw4.2.2.2.2.trans hw1.2.2.2.2))⟩, by rw [ht]; exact hP, hD⟩, hS.F ht⟩) hS.2.2 dX6_goThroughBreaker_58
  · refine lv_iconst (v := 1) hx hb dX6_goThroughBreaker_10 (by decide) ?_
    exact W.iret (v := 1) hx hb hr (fun t ht hW => ⟨⟨_, (g1, d1, F1), rfl, ⟨trivial, hw1.2.1, hw1.2.2.1, hw1.2.2.2.1, hw1.2.2.2.2⟩, by rw [ht]; exact hP, hD⟩, hS.F ht⟩) hS.2.2 dX6_goThroughBreaker_11
set_option maxHeartbeats 4000000 in
set_option maxRecDepth 100000 in
theorem s_X6_goThroughBulkhead (n : Nat) (ih : GoInAt n) (l : Launch) (D : va_G) (cI : ClassId) (a : Nat → Nat) (sz : Nat) (g : Nat → Int32) (d : Nat → UInt64) (F : Nat → Nat → Int32) (p_lv : Int32) (p_dl : Int32) (hI : CI g d) (hlev : p_lv.toInt ≤ n + 1) (h1 : 1 ≤ p_lv.toInt) : Met l yX6_goThroughBulkhead wsX6_goThroughBulkhead ({ frames := (4 * n + 12), cells := 0, slots := 0, locals := (80 * n + 240) }) (gP (KC D cI) D (cw cI a g d F) sz [.ref (a 0), .int p_lv, .int p_dl]) (va_Qi (fun (r : Int32) (u : SS) => (True) ∧ CP g F u) (gB D (wfC cI a) (va_A (cw cI a g d F) sz)) (va_A (cw cI a g d F) sz)) 0 0 (va_A (cw cI a g d F) sz) := by
  refine Met.ofW (cc := cX6_goThroughBulkhead) (maxL := 3) (ret := (some .int)) (by decide) rfl ?_
  intro p e s m args below meth c s₁ B hml hv
  obtain ⟨rfl, hsz, hP, hD0, hKK⟩ := hv
  have hx := B.exec
  have hb := B.bytes
  have hr := B.returns
  have hts := atoms_spec (ws := wsX6_goThroughBulkhead) B.pre
  have hown : s.vm.findClass RX6 = some m.cls := findClass_of_methodNamed B.named
  have hlocks := B.notSynchronized
  subst hsz
  have hK := hKK.1
  have hok := KC_ok D cI
  have hD := hD0.self (sz := s.heap.size)
  generalize hAe : va_A (cw cI a g d F) s.heap.size = A at hD ⊢
  have hi6 : ∀ w ∈ wsX60, w ∈ wsX6_goThroughBulkhead := fun w h => List.mem_cons_of_mem _ (List.mem_append_left _ (List.mem_append_left _ (List.mem_append_left _ (List.mem_append_left _ (List.mem_append_left _ (List.mem_append_left _ (List.mem_append_right _ h)))))))
  have hi5 : ∀ w ∈ wsX50, w ∈ wsX6_goThroughBulkhead := fun w h => List.mem_cons_of_mem _ (List.mem_append_left _ (List.mem_append_left _ (List.mem_append_left _ (List.mem_append_left _ (List.mem_append_left _ (List.mem_append_right _ h))))))
  have hi2 : ∀ w ∈ wsX20, w ∈ wsX6_goThroughBulkhead := fun w h => List.mem_cons_of_mem _ (List.mem_append_left _ (List.mem_append_left _ (List.mem_append_left _ (List.mem_append_left _ (List.mem_append_right _ h)))))
  have hi1 : ∀ w ∈ wsX10, w ∈ wsX6_goThroughBulkhead := fun w h => List.mem_cons_of_mem _ (List.mem_append_left _ (List.mem_append_left _ (List.mem_append_left _ (List.mem_append_right _ h))))
  have hi0 : ∀ w ∈ wsX00, w ∈ wsX6_goThroughBulkhead := fun w h => List.mem_cons_of_mem _ (List.mem_append_left _ (List.mem_append_left _ (List.mem_append_right _ h)))
  have hi3 : ∀ w ∈ wsX30, w ∈ wsX6_goThroughBulkhead := fun w h => List.mem_cons_of_mem _ (List.mem_append_left _ (List.mem_append_right _ h))
  have hi4 : ∀ w ∈ wsX40, w ∈ wsX6_goThroughBulkhead := fun w h => List.mem_cons_of_mem _ (List.mem_append_right _ h)
  have hA : ∀ q : Nat, s.heap.size ≤ q → A q := fun q h => by rw [← hAe]; exact Or.inr h
  have hS : va_S A s.heap s.heap [] := va_S.rf
  have hP : va_P D vwCl (cw cI a g d F) s.heap := hP
  have hl := lv_entry ([.ref ((a 0)), .int p_lv, .int p_dl]) (n := 3) (Nat.le_of_ble_eq_true rfl)
  rw [lg_entry_eq]
  generalize (lg_sl ([.ref ((a 0)), .int p_lv, .int p_dl]) ++ List.replicate (3 - (lg_sl ([.ref ((a 0)), .int p_lv, .int p_dl])).length) Slot.unset).toArray = ls at hl ⊢
  have hl : lv_has ls 3 [(0, .ref ((a 0))), (1, .int p_lv), (2, .int p_dl)] := hl
  refine lv_aload_n hx hb dX6_goThroughBulkhead_0 rfl (lv_at hl 0 rfl) ?_
  refine va_get (D := D) (ci := 6) (v := .int ((g 2))) (C := RX6) (T := TX6) (N := 11) hx hb hts hi6 hown hK hP 0 rfl rfl 9 (by decide) (hts (.fieldLink RX6 66 "GuardedCalls" "used" "I") (by decide +kernel)) (fun _ h9 => h9) rfl dX6_goThroughBulkhead_1 ?_
  refine lv_aload_n hx hb dX6_goThroughBulkhead_4 rfl (lv_at hl 0 rfl) ?_
  refine va_get (D := D) (ci := 6) (v := .int ((g 1))) (C := RX6) (T := TX6) (N := 11) hx hb hts hi6 hown hK hP 0 rfl rfl 8 (by decide) (hts (.fieldLink RX6 63 "GuardedCalls" "capacity" "I") (by decide +kernel)) (fun _ h9 => h9) rfl dX6_goThroughBulkhead_5 ?_
  refine lv_icmp_lt (tgt := 22) hx hb dX6_goThroughBulkhead_8 (by decide) (fun c1 => ?_) (fun c1 => ?_)
  · refine lv_aload_n hx hb dX6_goThroughBulkhead_22 rfl (lv_at hl 0 rfl) ?_
    refine lv_iload_n hx hb dX6_goThroughBulkhead_23 rfl (lv_at hl 1 rfl) ?_
    refine lv_iconst (v := 1) hx hb dX6_goThroughBulkhead_24 (by decide) ?_
    refine lv_isub hx hb dX6_goThroughBulkhead_25 ?_
    refine lv_topi (fun x2 e2 => ?_)
    refine lv_iload_n hx hb dX6_goThroughBulkhead_26 rfl (lv_at hl 2 rfl) ?_
    refine gc_vi (As := [.int x2, .int p_dl]) (rest := []) (w0 := cw cI a g d F) (wc := cw cI a g d F) (wr := []) (wf := wfC cI a) ⟨hx, hb, hml, hown, hts⟩ hKK hok hP hD hS hA [0, 1, 2, 3, 4, 5, 6, 7, 8, 9, 10, 11] [] rfl rfl (by decide) (ih l D cI a _ g d F x2 p_dl hI (by rw [e2]; exact lev_dn hlev h1)) (cwV 2 hts gX6_goThroughBulkhead_X6_goIn rfl rfl rfl (by decide +kernel) ⟨(show (4 * n + 10) + 1 ≤ (4 * n + 12) from by omega), (show 8 + (3 + 11) + ((80 * n + 200)) ≤ (80 * n + 240) from by omega)⟩) (va_recv hK hP (ci := 6) (q0 := 0) rfl rfl) rfl hl.1 rfl (Nat.le_of_ble_eq_true rfl) dX6_goThroughBulkhead_27 ⟨Nat.le_of_ble_eq_true rfl, Nat.le_of_ble_eq_true rfl⟩ (fun r3 u3 H locs hw3 hP hD hS => ?_)
    obtain ⟨g3, d3, F3⟩ := u3
    have hP : va_P D vwCl (cw cI a g3 d3 F3) H := hP
    have hD : va_D A (cw cI a g3 d3 F3) := hD
    exact W.iret (v := r3) hx hb hr (fun t ht hW => ⟨⟨_, (g3, d3, F3), rfl, ⟨trivial, hw3.2.1, hw3.2.2.1, hw3.2.2.2.1, hw3.2.2.2.2⟩, by rw [ht]; exact hP, hD⟩, hS.F ht⟩) hS.2.2 dX6_goThroughBulkhead_30
  · refine lv_aload_n hx hb dX6_goThroughBulkhead_11 rfl (lv_at hl 0 rfl) ?_
    refine va_get (D := D) (ci := 6) (v := .ref ((a 1))) (C := RX6) (T := TX6) (N := 11) hx hb hts hi6 hown hK hP 0 rfl rfl 0 (by decide) (hts (.fieldLink RX6 10 "GuardedCalls" "events" "LGuardedCalls$Events;") (by decide +kernel)) (fun _ h9 => h9) rfl dX6_goThroughBulkhead_12 ?_
    refine lv_bipush (v := 11) hx hb dX6_goThroughBulkhead_15 (by decide) ?_
    refine gc_vv (As := [.int 11]) (rest := []) (w0 := cw cI a g d F) (wc := cw cI a g d F) (wr := []) (wf := wfC cI a) ⟨hx, hb, hml, hown, hts⟩ hKK hok hP hD hS hA [0, 1, 2, 3, 4, 5, 6, 7, 8, 9, 10, 11] [] rfl rfl (by decide) (s_X2_add l D cI a _ g d F 11 hI) (cwV 1 hts gX6_goThroughBulkhead_X2_add rfl rfl rfl (by decide +kernel) ⟨(show 0 + 1 ≤ (4 * n + 12) from by omega), (show 8 + (2 + 11) + (0) ≤ (80 * n + 240) from by omega)⟩) (va_recv hK hP (ci := 2) (q0 := 1) rfl rfl) rfl hl.1 rfl (Nat.le_of_ble_eq_true rfl) dX6_goThroughBulkhead_17 ⟨Nat.le_of_ble_eq_true rfl, Nat.le_of_ble_eq_true rfl⟩ (fun u4 H locs hw4 hP hD hS => ?_)
    obtain ⟨g4, d4, F4⟩ := u4
    have hP : va_P D vwCl (cw cI a g4 d4 F4) H := hP
    have hD : va_D A (cw cI a g4 d4 F4) := hD
    refine lv_iconst (v := 2) hx hb dX6_goThroughBulkhead_20 (by decide) ?_
    exact W.iret (v := 2) hx hb hr (fun t ht hW => ⟨⟨_, (g4, d4, F4), rfl, ⟨trivial, hw4.2.1, hw4.2.2.1, hw4.2.2.2.1, hw4.2.2.2.2⟩, by rw [ht]; exact hP, hD⟩, hS.F ht⟩) hS.2.2 dX6_goThroughBulkhead_21
set_option maxHeartbeats 4000000 in
set_option maxRecDepth 100000 in
theorem s_X6_goThroughLimiter (n : Nat) (ih : GoInAt n) (l : Launch) (D : va_G) (cI : ClassId) (a : Nat → Nat) (sz : Nat) (g : Nat → Int32) (d : Nat → UInt64) (F : Nat → Nat → Int32) (p_lv : Int32) (p_dl : Int32) (hI : CI g d) (hlev : p_lv.toInt ≤ n + 1) (h1 : 1 ≤ p_lv.toInt) : Met l yX6_goThroughLimiter wsX6_goThroughLimiter ({ frames := (4 * n + 12), cells := 0, slots := 0, locals := (80 * n + 240) }) (gP (KC D cI) D (cw cI a g d F) sz [.ref (a 0), .int p_lv, .int p_dl]) (va_Qi (fun (r : Int32) (u : SS) => (True) ∧ CP g F u) (gB D (wfC cI a) (va_A (cw cI a g d F) sz)) (va_A (cw cI a g d F) sz)) 0 0 (va_A (cw cI a g d F) sz) := by
  refine Met.ofW (cc := cX6_goThroughLimiter) (maxL := 4) (ret := (some .int)) (by decide) rfl ?_
  intro p e s m args below meth c s₁ B hml hv
  obtain ⟨rfl, hsz, hP, hD0, hKK⟩ := hv
  have hx := B.exec
  have hb := B.bytes
  have hr := B.returns
  have hts := atoms_spec (ws := wsX6_goThroughLimiter) B.pre
  have hown : s.vm.findClass RX6 = some m.cls := findClass_of_methodNamed B.named
  have hlocks := B.notSynchronized
  subst hsz
  have hK := hKK.1
  have hok := KC_ok D cI
  have hD := hD0.self (sz := s.heap.size)
  generalize hAe : va_A (cw cI a g d F) s.heap.size = A at hD ⊢
  have hi6 : ∀ w ∈ wsX60, w ∈ wsX6_goThroughLimiter := fun w h => List.mem_cons_of_mem _ (List.mem_append_left _ (List.mem_append_left _ (List.mem_append_left _ (List.mem_append_left _ (List.mem_append_left _ (List.mem_append_left _ (List.mem_append_right _ h)))))))
  have hi5 : ∀ w ∈ wsX50, w ∈ wsX6_goThroughLimiter := fun w h => List.mem_cons_of_mem _ (List.mem_append_left _ (List.mem_append_left _ (List.mem_append_left _ (List.mem_append_left _ (List.mem_append_left _ (List.mem_append_right _ h))))))
  have hi2 : ∀ w ∈ wsX20, w ∈ wsX6_goThroughLimiter := fun w h => List.mem_cons_of_mem _ (List.mem_append_left _ (List.mem_append_left _ (List.mem_append_left _ (List.mem_append_left _ (List.mem_append_right _ h)))))
  have hi1 : ∀ w ∈ wsX10, w ∈ wsX6_goThroughLimiter := fun w h => List.mem_cons_of_mem _ (List.mem_append_left _ (List.mem_append_left _ (List.mem_append_left _ (List.mem_append_right _ h))))
  have hi0 : ∀ w ∈ wsX00, w ∈ wsX6_goThroughLimiter := fun w h => List.mem_cons_of_mem _ (List.mem_append_left _ (List.mem_append_left _ (List.mem_append_right _ h)))
  have hi3 : ∀ w ∈ wsX30, w ∈ wsX6_goThroughLimiter := fun w h => List.mem_cons_of_mem _ (List.mem_append_left _ (List.mem_append_right _ h))
  have hi4 : ∀ w ∈ wsX40, w ∈ wsX6_goThroughLimiter := fun w h => List.mem_cons_of_mem _ (List.mem_append_right _ h)
  have hA : ∀ q : Nat, s.heap.size ≤ q → A q := fun q h => by rw [← hAe]; exact Or.inr h
  have hS : va_S A s.heap s.heap [] := va_S.rf
  have hP : va_P D vwCl (cw cI a g d F) s.heap := hP
  have hl := lv_entry ([.ref ((a 0)), .int p_lv, .int p_dl]) (n := 4) (Nat.le_of_ble_eq_true rfl)
  rw [lg_entry_eq]
  generalize (lg_sl ([.ref ((a 0)), .int p_lv, .int p_dl]) ++ List.replicate (4 - (lg_sl ([.ref ((a 0)), .int p_lv, .int p_dl])).length) Slot.unset).toArray = ls at hl ⊢
  have hl : lv_has ls 4 [(0, .ref ((a 0))), (1, .int p_lv), (2, .int p_dl)] := hl
  refine lv_aload_n hx hb dX6_goThroughLimiter_0 rfl (lv_at hl 0 rfl) ?_
  refine va_get (D := D) (ci := 6) (v := .ref ((a 5))) (C := RX6) (T := TX6) (N := 11) hx hb hts hi6 hown hK hP 0 rfl rfl 4 (by decide) (hts (.fieldLink RX6 44 "GuardedCalls" "limiter" "LGuardedCalls$Limiter;") (by decide +kernel)) (fun _ h9 => h9) rfl dX6_goThroughLimiter_1 ?_
  refine lv_iload_n hx hb dX6_goThroughLimiter_4 rfl (lv_at hl 2 rfl) ?_
  refine gc_vi (As := [.int p_dl]) (rest := []) (w0 := cw cI a g d F) (wc := cw cI a g d F) (wr := []) (wf := wfC cI a) ⟨hx, hb, hml, hown, hts⟩ hKK hok hP hD hS hA [0, 1, 2, 3, 4, 5, 6, 7, 8, 9, 10, 11] [] rfl rfl (by decide) (s_X3_takePermit l D cI a _ g d F p_dl hI) (cwV 1 hts gX6_goThroughLimiter_X3_takePermit rfl rfl rfl (by decide +kernel) ⟨(show 2 + 1 ≤ (4 * n + 12) from by omega), (show 8 + (3 + 11) + (43) ≤ (80 * n + 240) from by omega)⟩) (va_recv hK hP (ci := 3) (q0 := 5) rfl rfl) rfl hl.1 rfl (Nat.le_of_ble_eq_true rfl) dX6_goThroughLimiter_5 ⟨Nat.le_of_ble_eq_true rfl, Nat.le_of_ble_eq_true rfl⟩ (fun r1 u1 H locs hw1 hP hD hS => ?_)
  obtain ⟨g1, d1, F1⟩ := u1
  have hP : va_P D vwCl (cw cI a g1 d1 F1) H := hP
  have hD : va_D A (cw cI a g1 d1 F1) := hD
  refine lv_istore_n (lv' := [(3, .int r1), (0, .ref ((a 0))), (1, .int p_lv), (2, .int p_dl)]) hx hb dX6_goThroughLimiter_8 rfl hl (by decide) rfl (fun ls hl => ?_)
  refine lv_iload_n hx hb dX6_goThroughLimiter_9 rfl (lv_at hl 0 rfl) ?_
  refine lv_if_ne (tgt := 24) hx hb dX6_goThroughLimiter_10 (by decide) (fun c2 => ?_) (fun c2 => ?_)
  · refine lv_iload_n hx hb dX6_goThroughLimiter_24 rfl (lv_at hl 0 rfl) ?_
    exact W.iret (v := r1) hx hb hr (fun t ht hW => ⟨⟨_, (g1, d1, F1), rfl, ⟨trivial, hw1.2.1, hw1.2.2.1, hw1.2.2.2.1, hw1.2.2.2.2⟩, by rw [ht]; exact hP, hD⟩, hS.F ht⟩) hS.2.2 dX6_goThroughLimiter_25
  · refine lv_aload_n hx hb dX6_goThroughLimiter_13 rfl (lv_at hl 1 rfl) ?_
    refine lv_iload_n hx hb dX6_goThroughLimiter_14 rfl (lv_at hl 2 rfl) ?_
    refine lv_iconst (v := 1) hx hb dX6_goThroughLimiter_15 (by decide) ?_
    refine lv_isub hx hb dX6_goThroughLimiter_16 ?_
    refine lv_topi (fun x3 e3 => ?_)
    refine lv_iload_n hx hb dX6_goThroughLimiter_17 rfl (lv_at hl 3 rfl) ?_
    refine gc_vi (As := [.int x3, .int p_dl]) (rest := []) (w0 := cw cI a g1 d1 F1) (wc := cw cI a g1 d1 F1) (wr := []) (wf := wfC cI a) ⟨hx, hb, hml, hown, hts⟩ hKK hok hP hD hS hA [0, 1, 2, 3, 4, 5, 6, 7, 8, 9, 10, 11] [] rfl rfl (by decide) (ih l D cI a _ g1 d1 F1 x3 p_dl hw1.2.1 (by rw [e3]; exact lev_dn hlev h1)) (cwV 2 hts gX6_goThroughLimiter_X6_goIn rfl rfl rfl (by decide +kernel) ⟨(show (4 * n + 10) + 1 ≤ (4 * n + 12) from by omega), (show 8 + (3 + 11) + ((80 * n + 200)) ≤ (80 * n + 240) from by omega)⟩) (va_recv hK hP (ci := 6) (q0 := 0) rfl rfl) rfl hl.1 rfl (Nat.le_of_ble_eq_true rfl) dX6_goThroughLimiter_18 ⟨Nat.le_of_ble_eq_true rfl, Nat.le_of_ble_eq_true rfl⟩ (fun r4 u4 H locs hw4 hP hD hS => ?_)
    obtain ⟨g4, d4, F4⟩ := u4
    have hP : va_P D vwCl (cw cI a g4 d4 F4) H := hP
    have hD : va_D A (cw cI a g4 d4 F4) := hD
    refine lv_goto (tgt := 25) hx hb dX6_goThroughLimiter_21 (by decide) ?_
    exact W.iret (v := r4) hx hb hr (fun t ht hW => ⟨⟨_, (g4, d4, F4), rfl, ⟨trivial, hw4.2.1, (hw4.2.2.1.trans hw1.2.2.1), (hw4.2.2.2.1.trans hw1.2.2.2.1), (hw4.2.2.2.2.trans hw1.2.2.2.2)⟩, by rw [ht]; exact hP, hD⟩, hS.F ht⟩) hS.2.2 dX6_goThroughLimiter_25
set_option maxHeartbeats 4000000 in
set_option maxRecDepth 100000 in
theorem s_X6_goThroughRetry (n : Nat) (ih : GoInAt n) (l : Launch) (D : va_G) (cI : ClassId) (a : Nat → Nat) (sz : Nat) (g : Nat → Int32) (d : Nat → UInt64) (F : Nat → Nat → Int32) (p_lv : Int32) (p_dl : Int32) (hI : CI g d) (hlev : p_lv.toInt ≤ n + 1) (h1 : 1 ≤ p_lv.toInt) : Met l yX6_goThroughRetry wsX6_goThroughRetry ({ frames := (4 * n + 12), cells := 0, slots := 0, locals := (80 * n + 240) }) (gP (KC D cI) D (cw cI a g d F) sz [.ref (a 0), .int p_lv, .int p_dl]) (va_Qi (fun (r : Int32) (u : SS) => (True) ∧ CP g F u) (gB D (wfC cI a) (va_A (cw cI a g d F) sz)) (va_A (cw cI a g d F) sz)) 0 0 (va_A (cw cI a g d F) sz) := by
  refine Met.ofW (cc := cX6_goThroughRetry) (maxL := 5) (ret := (some .int)) (by decide) rfl ?_
  intro p e s m args below meth c s₁ B hml hv
  obtain ⟨rfl, hsz, hP, hD0, hKK⟩ := hv
  have hx := B.exec
  have hb := B.bytes
  have hr := B.returns
  have hts := atoms_spec (ws := wsX6_goThroughRetry) B.pre
  have hown : s.vm.findClass RX6 = some m.cls := findClass_of_methodNamed B.named
  have hlocks := B.notSynchronized
  subst hsz
  have hK := hKK.1
  have hok := KC_ok D cI
  have hD := hD0.self (sz := s.heap.size)
  generalize hAe : va_A (cw cI a g d F) s.heap.size = A at hD ⊢
  have hi6 : ∀ w ∈ wsX60, w ∈ wsX6_goThroughRetry := fun w h => List.mem_cons_of_mem _ (List.mem_append_left _ (List.mem_append_left _ (List.mem_append_left _ (List.mem_append_left _ (List.mem_append_left _ (List.mem_append_left _ (List.mem_append_right _ h)))))))
  have hi5 : ∀ w ∈ wsX50, w ∈ wsX6_goThroughRetry := fun w h => List.mem_cons_of_mem _ (List.mem_append_left _ (List.mem_append_left _ (List.mem_append_left _ (List.mem_append_left _ (List.mem_append_left _ (List.mem_append_right _ h))))))
  have hi2 : ∀ w ∈ wsX20, w ∈ wsX6_goThroughRetry := fun w h => List.mem_cons_of_mem _ (List.mem_append_left _ (List.mem_append_left _ (List.mem_append_left _ (List.mem_append_left _ (List.mem_append_right _ h)))))
  have hi1 : ∀ w ∈ wsX10, w ∈ wsX6_goThroughRetry := fun w h => List.mem_cons_of_mem _ (List.mem_append_left _ (List.mem_append_left _ (List.mem_append_left _ (List.mem_append_right _ h))))
  have hi0 : ∀ w ∈ wsX00, w ∈ wsX6_goThroughRetry := fun w h => List.mem_cons_of_mem _ (List.mem_append_left _ (List.mem_append_left _ (List.mem_append_right _ h)))
  have hi3 : ∀ w ∈ wsX30, w ∈ wsX6_goThroughRetry := fun w h => List.mem_cons_of_mem _ (List.mem_append_left _ (List.mem_append_right _ h))
  have hi4 : ∀ w ∈ wsX40, w ∈ wsX6_goThroughRetry := fun w h => List.mem_cons_of_mem _ (List.mem_append_right _ h)
  have hA : ∀ q : Nat, s.heap.size ≤ q → A q := fun q h => by rw [← hAe]; exact Or.inr h
  have hS : va_S A s.heap s.heap [] := va_S.rf
  have hP : va_P D vwCl (cw cI a g d F) s.heap := hP
  have hl := lv_entry ([.ref ((a 0)), .int p_lv, .int p_dl]) (n := 5) (Nat.le_of_ble_eq_true rfl)
  rw [lg_entry_eq]
  generalize (lg_sl ([.ref ((a 0)), .int p_lv, .int p_dl]) ++ List.replicate (5 - (lg_sl ([.ref ((a 0)), .int p_lv, .int p_dl])).length) Slot.unset).toArray = ls at hl ⊢
  have hl : lv_has ls 5 [(0, .ref ((a 0))), (1, .int p_lv), (2, .int p_dl)] := hl
  refine lv_iconst (v := 1) hx hb dX6_goThroughRetry_0 (by decide) ?_
  refine lv_istore_n (lv' := [(3, .int 1), (0, .ref ((a 0))), (1, .int p_lv), (2, .int p_dl)]) hx hb dX6_goThroughRetry_1 rfl hl (by decide) rfl (fun ls hl => ?_)
  refine gl_loop (σ := Int32 × (Nat → Int32) × (Nat → UInt64) × (Nat → Nat → Int32)) (μ := fun q => match q with | (y1_3, g1, d1, F1) => (2147483647 - (y1_3).toInt).toNat) (Inv := fun q H locs ls => match q with | (y1_3, g1, d1, F1) => (CI g1 d1 ∧ g1 0 = g 0 ∧ g1 2 = g 2 ∧ F1 0 = F 0) ∧ va_P D vwCl (cw cI a g1 d1 F1) H ∧ va_D A (cw cI a g1 d1 F1) ∧ va_S A s.heap H locs ∧ lv_has ls 5 [(3, .int y1_3), (0, .ref ((a 0))), (1, .int p_lv), (2, .int p_dl)]) (fun q H locs ls hv ih1 => ?_) (1, g, d, F) _ _ _ ⟨⟨hI, rfl, rfl, rfl⟩, hP, hD, hS, lv_sub hl [0, 1, 2, 3] rfl⟩
  obtain ⟨y1_3, g1, d1, F1⟩ := q
  obtain ⟨hk1, hP, hD, hS, hl⟩ := hv
  refine lv_iload_n hx hb dX6_goThroughRetry_2 rfl (lv_at hl 0 rfl) ?_
  refine lv_aload_n hx hb dX6_goThroughRetry_3 rfl (lv_at hl 1 rfl) ?_
  refine va_get (D := D) (ci := 6) (v := .ref ((a 6))) (C := RX6) (T := TX6) (N := 11) hx hb hts hi6 hown hK hP 0 rfl rfl 5 (by decide) (hts (.fieldLink RX6 51 "GuardedCalls" "retry" "LGuardedCalls$Retry;") (by decide +kernel)) (fun _ h9 => h9) rfl dX6_goThroughRetry_4 ?_
  refine va_getN (D := D) (ci := 4) (v := .int ((g1 27))) (C := RX4) (T := TX4) (N := 5) hx hb hts hi4 hown hK hP 6 rfl rfl 0 (by decide) (nw_use hKK.2 (w := .fieldLinkNest "GuardedCalls" 120 "GuardedCalls$Retry" "attempts" "I" "GuardedCalls") (by decide +kernel)) (fun _ h9 => h9) rfl dX6_goThroughRetry_7 ?_
  refine lv_icmp_ge (tgt := 75) hx hb dX6_goThroughRetry_10 (by decide) (fun c2 => ?_) (fun c2 => ?_)
  · refine lv_aload_n hx hb dX6_goThroughRetry_75 rfl (lv_at hl 1 rfl) ?_
    refine lv_iload_n hx hb dX6_goThroughRetry_76 rfl (lv_at hl 2 rfl) ?_
    refine lv_iconst (v := 1) hx hb dX6_goThroughRetry_77 (by decide) ?_
    refine lv_isub hx hb dX6_goThroughRetry_78 ?_
    refine lv_topi (fun x3 e3 => ?_)
    refine lv_iload_n hx hb dX6_goThroughRetry_79 rfl (lv_at hl 3 rfl) ?_
    refine gc_vi (As := [.int x3, .int p_dl]) (rest := []) (w0 := cw cI a g1 d1 F1) (wc := cw cI a g1 d1 F1) (wr := []) (wf := wfC cI a) ⟨hx, hb, hml, hown, hts⟩ hKK hok hP hD hS hA [0, 1, 2, 3, 4, 5, 6, 7, 8, 9, 10, 11] [] rfl rfl (by decide) (ih l D cI a _ g1 d1 F1 x3 p_dl hk1.1 (by rw [e3]; exact lev_dn hlev h1)) (cwV 2 hts gX6_goThroughRetry_X6_goIn rfl rfl rfl (by decide +kernel) ⟨(show (4 * n + 10) + 1 ≤ (4 * n + 12) from by omega), (show 8 + (3 + 11) + ((80 * n + 200)) ≤ (80 * n + 240) from by omega)⟩) (va_recv hK hP (ci := 6) (q0 := 0) rfl rfl) rfl hl.1 rfl (Nat.le_of_ble_eq_true rfl) dX6_goThroughRetry_80 ⟨Nat.le_of_ble_eq_true rfl, Nat.le_of_ble_eq_true rfl⟩ (fun r4 u4 H locs hw4 hP hD hS => ?_)
    obtain ⟨g4, d4, F4⟩ := u4
    have hP : va_P D vwCl (cw cI a g4 d4 F4) H := hP
    have hD : va_D A (cw cI a g4 d4 F4) := hD
    refine lv_istore_n (lv' := [(3, .int r4), (0, .ref ((a 0))), (1, .int p_lv), (2, .int p_dl)]) hx hb dX6_goThroughRetry_83 rfl hl (by decide) rfl (fun ls hl => ?_)
    refine lv_aload_n hx hb dX6_goThroughRetry_84 rfl (lv_at hl 1 rfl) ?_
    refine va_get (D := D) (ci := 6) (v := .ref ((a 6))) (C := RX6) (T := TX6) (N := 11) hx hb hts hi6 hown hK hP 0 rfl rfl 5 (by decide) (hts (.fieldLink RX6 51 "GuardedCalls" "retry" "LGuardedCalls$Retry;") (by decide +kernel)) (fun _ h9 => h9) rfl dX6_goThroughRetry_85 ?_
    refine lv_iload_n hx hb dX6_goThroughRetry_88 rfl (lv_at hl 0 rfl) ?_
    refine gc_vi (As := [.int r4]) (rest := []) (w0 := cw cI a g4 d4 F4) (wc := cw cI a g4 d4 F4) (wr := []) (wf := wfC cI a) ⟨hx, hb, hml, hown, hts⟩ hKK hok hP hD hS hA [0, 1, 2, 3, 4, 5, 6, 7, 8, 9, 10, 11] [] rfl rfl (by decide) (s_X4_isAgain l D cI a _ g4 d4 F4 r4) (cwV 1 hts gX6_goThroughRetry_X4_isAgain rfl rfl rfl (by decide +kernel) ⟨(show 0 + 1 ≤ (4 * n + 12) from by omega), (show 8 + (2 + 11) + (0) ≤ (80 * n + 240) from by omega)⟩) (va_recv hK hP (ci := 4) (q0 := 6) rfl rfl) rfl hl.1 rfl (Nat.le_of_ble_eq_true rfl) dX6_goThroughRetry_89 ⟨Nat.le_of_ble_eq_true rfl, Nat.le_of_ble_eq_true rfl⟩ (fun r5 u5 H locs hw5 hP hD hS => ?_)
    subst hw5
    have hP : va_P D vwCl (cw cI a g4 d4 F4) H := hP
    have hD : va_D A (cw cI a g4 d4 F4) := hD
    refine lv_if_eq (tgt := 104) hx hb dX6_goThroughRetry_92 (by decide) (fun c6 => ?_) (fun c6 => ?_)
    · refine lv_iload_n hx hb dX6_goThroughRetry_104 rfl (lv_at hl 0 rfl) ?_
      exact W.iret (v := r4) hx hb hr (fun t ht hW => ⟨⟨_, (g4, d4, F4), rfl, ⟨trivial, hw4.2.1, (hw4.2.2.1.trans hk1.2.1), (hw4.2.2.2.1.trans hk1.2.2.1), (hw4.2.2.2.2.trans hk1.2.2.2)⟩, by rw [ht]; exact hP, hD⟩, hS.F ht⟩) hS.2.2 dX6_goThroughRetry_105
    · refine lv_aload_n hx hb dX6_goThroughRetry_95 rfl (lv_at hl 1 rfl) ?_
      refine va_get (D := D) (ci := 6) (v := .ref ((a 1))) (C := RX6) (T := TX6) (N := 11) hx hb hts hi6 hown hK hP 0 rfl rfl 0 (by decide) (hts (.fieldLink RX6 10 "GuardedCalls" "events" "LGuardedCalls$Events;") (by decide +kernel)) (fun _ h9 => h9) rfl dX6_goThroughRetry_96 ?_
      refine lv_bipush (v := 32) hx hb dX6_goThroughRetry_99 (by decide) ?_
      refine gc_vv (As := [.int 32]) (rest := []) (w0 := cw cI a g4 d4 F4) (wc := cw cI a g4 d4 F4) (wr := []) (wf := wfC cI a) ⟨hx, hb, hml, hown, hts⟩ hKK hok hP hD hS hA [0, 1, 2, 3, 4, 5, 6, 7, 8, 9, 10, 11] [] rfl rfl (by decide) (s_X2_add l D cI a _ g4 d4 F4 32 hw4.2.1) (cwV 1 hts gX6_goThroughRetry_X2_add rfl rfl rfl (by decide +kernel) ⟨(show 0 + 1 ≤ (4 * n + 12) from by omega), (show 8 + (2 + 11) + (0) ≤ (80 * n + 240) from by omega)⟩) (va_recv hK hP (ci := 2) (q0 := 1) rfl rfl) rfl hl.1 rfl (Nat.le_of_ble_eq_true rfl) dX6_goThroughRetry_101 ⟨Nat.le_of_ble_eq_true rfl, Nat.le_of_ble_eq_true rfl⟩ (fun u7 H locs hw7 hP hD hS => ?_)
      obtain ⟨g7, d7, F7⟩ := u7
      have hP : va_P D vwCl (cw cI a g7 d7 F7) H := hP
      have hD : va_D A (cw cI a g7 d7 F7) := hD
      refine lv_iload_n hx hb dX6_goThroughRetry_104 rfl (lv_at hl 0 rfl) ?_
      exact W.iret (v := r4) hx hb hr (fun t ht hW => ⟨⟨_, (g7, d7, F7), rfl, ⟨trivial, hw7.2.1, (hw7.2.2.1.trans (hw4.2.2.1.trans hk1.2.1)), (hw7.2.2.2.1.trans (hw4.2.2.2.1.trans hk1.2.2.1)), (hw7.2.2.2.2.trans (hw4.2.2.2.2.trans hk1.2.2.2))⟩, by rw [ht]; exact hP, hD⟩, hS.F ht⟩) hS.2.2 dX6_goThroughRetry_105
  · refine lv_aload_n hx hb dX6_goThroughRetry_13 rfl (lv_at hl 1 rfl) ?_
    refine lv_iload_n hx hb dX6_goThroughRetry_14 rfl (lv_at hl 2 rfl) ?_
    refine lv_iconst (v := 1) hx hb dX6_goThroughRetry_15 (by decide) ?_
    refine lv_isub hx hb dX6_goThroughRetry_16 ?_
    refine lv_topi (fun x8 e8 => ?_)
    refine lv_iload_n hx hb dX6_goThroughRetry_17 rfl (lv_at hl 3 rfl) ?_
    refine gc_vi (As := [.int x8, .int p_dl]) (rest := []) (w0 := cw cI a g1 d1 F1) (wc := cw cI a g1 d1 F1) (wr := []) (wf := wfC cI a) ⟨hx, hb, hml, hown, hts⟩ hKK hok hP hD hS hA [0, 1, 2, 3, 4, 5, 6, 7, 8, 9, 10, 11] [] rfl rfl (by decide) (ih l D cI a _ g1 d1 F1 x8 p_dl hk1.1 (by rw [e8]; exact lev_dn hlev h1)) (cwV 2 hts gX6_goThroughRetry_X6_goIn rfl rfl rfl (by decide +kernel) ⟨(show (4 * n + 10) + 1 ≤ (4 * n + 12) from by omega), (show 8 + (3 + 11) + ((80 * n + 200)) ≤ (80 * n + 240) from by omega)⟩) (va_recv hK hP (ci := 6) (q0 := 0) rfl rfl) rfl hl.1 rfl (Nat.le_of_ble_eq_true rfl) dX6_goThroughRetry_18 ⟨Nat.le_of_ble_eq_true rfl, Nat.le_of_ble_eq_true rfl⟩ (fun r9 u9 H locs hw9 hP hD hS => ?_)
    obtain ⟨g9, d9, F9⟩ := u9
    have hP : va_P D vwCl (cw cI a g9 d9 F9) H := hP
    have hD : va_D A (cw cI a g9 d9 F9) := hD
    refine lv_istore (lv' := [(4, .int r9), (3, .int y1_3), (0, .ref ((a 0))), (1, .int p_lv), (2, .int p_dl)]) hx hb dX6_goThroughRetry_21 hl (by decide) rfl (fun ls hl => ?_)
    refine lv_aload_n hx hb dX6_goThroughRetry_23 rfl (lv_at hl 2 rfl) ?_
    refine va_get (D := D) (ci := 6) (v := .ref ((a 6))) (C := RX6) (T := TX6) (N := 11) hx hb hts hi6 hown hK hP 0 rfl rfl 5 (by decide) (hts (.fieldLink RX6 51 "GuardedCalls" "retry" "LGuardedCalls$Retry;") (by decide +kernel)) (fun _ h9 => h9) rfl dX6_goThroughRetry_24 ?_
    refine lv_iload hx hb dX6_goThroughRetry_27 (lv_at hl 0 rfl) ?_
    refine gc_vi (As := [.int r9]) (rest := []) (w0 := cw cI a g9 d9 F9) (wc := cw cI a g9 d9 F9) (wr := []) (wf := wfC cI a) ⟨hx, hb, hml, hown, hts⟩ hKK hok hP hD hS hA [0, 1, 2, 3, 4, 5, 6, 7, 8, 9, 10, 11] [] rfl rfl (by decide) (s_X4_isAgain l D cI a _ g9 d9 F9 r9) (cwV 1 hts gX6_goThroughRetry_X4_isAgain rfl rfl rfl (by decide +kernel) ⟨(show 0 + 1 ≤ (4 * n + 12) from by omega), (show 8 + (2 + 11) + (0) ≤ (80 * n + 240) from by omega)⟩) (va_recv hK hP (ci := 4) (q0 := 6) rfl rfl) rfl hl.1 rfl (Nat.le_of_ble_eq_true rfl) dX6_goThroughRetry_29 ⟨Nat.le_of_ble_eq_true rfl, Nat.le_of_ble_eq_true rfl⟩ (fun r10 u10 H locs hw10 hP hD hS => ?_)
    subst hw10
    have hP : va_P D vwCl (cw cI a g9 d9 F9) H := hP
    have hD : va_D A (cw cI a g9 d9 F9) := hD
    refine lv_if_ne (tgt := 38) hx hb dX6_goThroughRetry_32 (by decide) (fun c11 => ?_) (fun c11 => ?_)
    · refine lv_aload_n hx hb dX6_goThroughRetry_38 rfl (lv_at hl 2 rfl) ?_
      refine va_get (D := D) (ci := 6) (v := .ref ((a 1))) (C := RX6) (T := TX6) (N := 11) hx hb hts hi6 hown hK hP 0 rfl rfl 0 (by decide) (hts (.fieldLink RX6 10 "GuardedCalls" "events" "LGuardedCalls$Events;") (by decide +kernel)) (fun _ h9 => h9) rfl dX6_goThroughRetry_39 ?_
      refine lv_bipush (v := 31) hx hb dX6_goThroughRetry_42 (by decide) ?_
      refine gc_vv (As := [.int 31]) (rest := []) (w0 := cw cI a g9 d9 F9) (wc := cw cI a g9 d9 F9) (wr := []) (wf := wfC cI a) ⟨hx, hb, hml, hown, hts⟩ hKK hok hP hD hS hA [0, 1, 2, 3, 4, 5, 6, 7, 8, 9, 10, 11] [] rfl rfl (by decide) (s_X2_add l D cI a _ g9 d9 F9 31 hw9.2.1) (cwV 1 hts gX6_goThroughRetry_X2_add rfl rfl rfl (by decide +kernel) ⟨(show 0 + 1 ≤ (4 * n + 12) from by omega), (show 8 + (2 + 11) + (0) ≤ (80 * n + 240) from by omega)⟩) (va_recv hK hP (ci := 2) (q0 := 1) rfl rfl) rfl hl.1 rfl (Nat.le_of_ble_eq_true rfl) dX6_goThroughRetry_44 ⟨Nat.le_of_ble_eq_true rfl, Nat.le_of_ble_eq_true rfl⟩ (fun u12 H locs hw12 hP hD hS => ?_)
      obtain ⟨g12, d12, F12⟩ := u12
      have hP : va_P D vwCl (cw cI a g12 d12 F12) H := hP
      have hD : va_D A (cw cI a g12 d12 F12) := hD
      refine lv_aload_n hx hb dX6_goThroughRetry_47 rfl (lv_at hl 2 rfl) ?_
      refine va_get (D := D) (ci := 6) (v := .ref ((a 2))) (C := RX6) (T := TX6) (N := 11) hx hb hts hi6 hown hK hP 0 rfl rfl 1 (by decide) (hts (.fieldLink RX6 21 "GuardedCalls" "clock" "LGuardedCalls$Clock;") (by decide +kernel)) (fun _ h9 => h9) rfl dX6_goThroughRetry_48 ?_
      refine lv_aload_n hx hb dX6_goThroughRetry_51 rfl (lv_at hl 2 rfl) ?_
      refine va_get (D := D) (ci := 6) (v := .ref ((a 6))) (C := RX6) (T := TX6) (N := 11) hx hb hts hi6 hown hK hP 0 rfl rfl 5 (by decide) (hts (.fieldLink RX6 51 "GuardedCalls" "retry" "LGuardedCalls$Retry;") (by decide +kernel)) (fun _ h9 => h9) rfl dX6_goThroughRetry_52 ?_
      refine lv_iload_n hx hb dX6_goThroughRetry_55 rfl (lv_at hl 1 rfl) ?_
      refine gc_vi (As := [.int y1_3]) (rest := [.ref ((a 2))]) (w0 := cw cI a g12 d12 F12) (wc := cw cI a g12 d12 F12) (wr := []) (wf := wfC cI a) ⟨hx, hb, hml, hown, hts⟩ hKK hok hP hD hS hA [0, 1, 2, 3, 4, 5, 6, 7, 8, 9, 10, 11] [] rfl rfl (by decide) (s_X4_ticksAfter l D cI a _ g12 d12 F12 y1_3 hw12.2.1) (cwV 1 hts gX6_goThroughRetry_X4_ticksAfter rfl rfl rfl (by decide +kernel) ⟨(show 0 + 1 ≤ (4 * n + 12) from by omega), (show 8 + (5 + 11) + (0) ≤ (80 * n + 240) from by omega)⟩) (va_recv hK hP (ci := 4) (q0 := 6) rfl rfl) rfl hl.1 rfl (Nat.le_of_ble_eq_true rfl) dX6_goThroughRetry_56 ⟨Nat.le_of_ble_eq_true rfl, Nat.le_of_ble_eq_true rfl⟩ (fun r13 u13 H locs hw13 hP hD hS => ?_)
      subst hw13
      have hP : va_P D vwCl (cw cI a g12 d12 F12) H := hP
      have hD : va_D A (cw cI a g12 d12 F12) := hD
      refine lv_iload_n hx hb dX6_goThroughRetry_59 rfl (lv_at hl 4 rfl) ?_
      refine gc_vi (As := [.int r13, .int p_dl]) (rest := []) (w0 := cw cI a g12 d12 F12) (wc := cw cI a g12 d12 F12) (wr := []) (wf := wfC cI a) ⟨hx, hb, hml, hown, hts⟩ hKK hok hP hD hS hA [0, 1, 2, 3, 4, 5, 6, 7, 8, 9, 10, 11] [] rfl rfl (by decide) (s_X1_lapse l D cI a _ g12 d12 F12 r13 p_dl hw12.2.1) (cwV 2 hts gX6_goThroughRetry_X1_lapse rfl rfl rfl (by decide +kernel) ⟨(show 1 + 1 ≤ (4 * n + 12) from by omega), (show 8 + (3 + 11) + (21) ≤ (80 * n + 240) from by omega)⟩) (va_recv hK hP (ci := 1) (q0 := 2) rfl rfl) rfl hl.1 rfl (Nat.le_of_ble_eq_true rfl) dX6_goThroughRetry_60 ⟨Nat.le_of_ble_eq_true rfl, Nat.le_of_ble_eq_true rfl⟩ (fun r14 u14 H locs hw14 hP hD hS => ?_)
      obtain ⟨g14, d14, F14⟩ := u14
      have hP : va_P D vwCl (cw cI a g14 d14 F14) H := hP
      have hD : va_D A (cw cI a g14 d14 F14) := hD
      refine lv_if_ne (tgt := 69) hx hb dX6_goThroughRetry_63 (by decide) (fun c15 => ?_) (fun c15 => ?_)
      · obtain ⟨x16, e16⟩ : ∃ y : Int32, y = y1_3 + 1 := ⟨_, rfl⟩
        refine lv_iinc (v := x16) (lv' := [(3, .int x16), (4, .int r9), (0, .ref ((a 0))), (1, .int p_lv), (2, .int p_dl)]) hx hb dX6_goThroughRetry_69 hl (k := 1) rfl (by rw [e16]; rfl) (by decide) rfl (fun ls hl => ?_)
        refine lv_goto (tgt := 2) hx hb dX6_goThroughRetry_72 (by decide) ?_
        exact ih1 (x16, g14, d14, F14) _ _ _ (by have h1 := i_inc c2; have h2 := i_lt c2; have h3 := ((g1 27)).toInt_lt; show (2147483647 - (x16).toInt).toNat < (2147483647 - (y1_3).toInt).toNat; rw [e16, h1]; omega) ⟨⟨hw14.2.1, (hw14.2.2.1.trans (hw12.2.2.1.trans (hw9.2.2.1.trans hk1.2.1))), (hw14.2.2.2.1.trans (hw12.2.2.2.1.trans (hw9.2.2.2.1.trans hk1.2.2.1))), (hw14.2.2.2.2.trans (hw12.2.2.2.2.trans (hw9.2.2.2.2.trans hk1.2.2.2)))⟩, hP, hD, hS, lv_sub hl [0, 2, 3, 4] rfl⟩
      · refine lv_bipush (v := 8) hx hb dX6_goThroughRetry_66 (by decide) ?_
        exact W.iret (v := 8) hx hb hr (fun t ht hW => ⟨⟨_, (g14, d14, F14), rfl, ⟨trivial, hw14.2.1, (hw14.2.2.1.trans (hw12.2.2.1.trans (hw9.2.2.1.trans hk1.2.1))), (hw14.2.2.2.1.trans (hw12.2.2.2.1.trans (hw9.2.2.2.1.trans hk1.2.2.1))), (hw14.2.2.2.2.trans (hw12.2.2.2.2.trans (hw9.2.2.2.2.trans hk1.2.2.2)))⟩, by rw [ht]; exact hP, hD⟩, hS.F ht⟩) hS.2.2 dX6_goThroughRetry_68
    · refine lv_iload hx hb dX6_goThroughRetry_35 (lv_at hl 0 rfl) ?_
      exact W.iret (v := r9) hx hb hr (fun t ht hW => ⟨⟨_, (g9, d9, F9), rfl, ⟨trivial, hw9.2.1, (hw9.2.2.1.trans hk1.2.1), (hw9.2.2.2.1.trans hk1.2.2.1), (hw9.2.2.2.2.trans hk1.2.2.2)⟩, by rw [ht]; exact hP, hD⟩, hS.F ht⟩) hS.2.2 dX6_goThroughRetry_37
set_option maxHeartbeats 4000000 in
set_option maxRecDepth 100000 in
theorem s_X6_goThroughTimer (n : Nat) (ih : GoInAt n) (l : Launch) (D : va_G) (cI : ClassId) (a : Nat → Nat) (sz : Nat) (g : Nat → Int32) (d : Nat → UInt64) (F : Nat → Nat → Int32) (p_lv : Int32) (hI : CI g d) (hlev : p_lv.toInt ≤ n + 1) (h1 : 1 ≤ p_lv.toInt) : Met l yX6_goThroughTimer wsX6_goThroughTimer ({ frames := (4 * n + 12), cells := 0, slots := 0, locals := (80 * n + 240) }) (gP (KC D cI) D (cw cI a g d F) sz [.ref (a 0), .int p_lv]) (va_Qi (fun (r : Int32) (u : SS) => (True) ∧ CP g F u) (gB D (wfC cI a) (va_A (cw cI a g d F) sz)) (va_A (cw cI a g d F) sz)) 0 0 (va_A (cw cI a g d F) sz) := by
  refine Met.ofW (cc := cX6_goThroughTimer) (maxL := 2) (ret := (some .int)) (by decide) rfl ?_
  intro p e s m args below meth c s₁ B hml hv
  obtain ⟨rfl, hsz, hP, hD0, hKK⟩ := hv
  have hx := B.exec
  have hb := B.bytes
  have hr := B.returns
  have hts := atoms_spec (ws := wsX6_goThroughTimer) B.pre
  have hown : s.vm.findClass RX6 = some m.cls := findClass_of_methodNamed B.named
  have hlocks := B.notSynchronized
  subst hsz
  have hK := hKK.1
  have hok := KC_ok D cI
  have hD := hD0.self (sz := s.heap.size)
  generalize hAe : va_A (cw cI a g d F) s.heap.size = A at hD ⊢
  have hi6 : ∀ w ∈ wsX60, w ∈ wsX6_goThroughTimer := fun w h => List.mem_cons_of_mem _ (List.mem_append_left _ (List.mem_append_left _ (List.mem_append_left _ (List.mem_append_left _ (List.mem_append_left _ (List.mem_append_left _ (List.mem_append_right _ h)))))))
  have hi5 : ∀ w ∈ wsX50, w ∈ wsX6_goThroughTimer := fun w h => List.mem_cons_of_mem _ (List.mem_append_left _ (List.mem_append_left _ (List.mem_append_left _ (List.mem_append_left _ (List.mem_append_left _ (List.mem_append_right _ h))))))
  have hi2 : ∀ w ∈ wsX20, w ∈ wsX6_goThroughTimer := fun w h => List.mem_cons_of_mem _ (List.mem_append_left _ (List.mem_append_left _ (List.mem_append_left _ (List.mem_append_left _ (List.mem_append_right _ h)))))
  have hi1 : ∀ w ∈ wsX10, w ∈ wsX6_goThroughTimer := fun w h => List.mem_cons_of_mem _ (List.mem_append_left _ (List.mem_append_left _ (List.mem_append_left _ (List.mem_append_right _ h))))
  have hi0 : ∀ w ∈ wsX00, w ∈ wsX6_goThroughTimer := fun w h => List.mem_cons_of_mem _ (List.mem_append_left _ (List.mem_append_left _ (List.mem_append_right _ h)))
  have hi3 : ∀ w ∈ wsX30, w ∈ wsX6_goThroughTimer := fun w h => List.mem_cons_of_mem _ (List.mem_append_left _ (List.mem_append_right _ h))
  have hi4 : ∀ w ∈ wsX40, w ∈ wsX6_goThroughTimer := fun w h => List.mem_cons_of_mem _ (List.mem_append_right _ h)
  have hA : ∀ q : Nat, s.heap.size ≤ q → A q := fun q h => by rw [← hAe]; exact Or.inr h
  have hS : va_S A s.heap s.heap [] := va_S.rf
  have hP : va_P D vwCl (cw cI a g d F) s.heap := hP
  have hl := lv_entry ([.ref ((a 0)), .int p_lv]) (n := 2) (Nat.le_of_ble_eq_true rfl)
  rw [lg_entry_eq]
  generalize (lg_sl ([.ref ((a 0)), .int p_lv]) ++ List.replicate (2 - (lg_sl ([.ref ((a 0)), .int p_lv])).length) Slot.unset).toArray = ls at hl ⊢
  have hl : lv_has ls 2 [(0, .ref ((a 0))), (1, .int p_lv)] := hl
  refine lv_aload_n hx hb dX6_goThroughTimer_0 rfl (lv_at hl 0 rfl) ?_
  refine lv_iload_n hx hb dX6_goThroughTimer_1 rfl (lv_at hl 1 rfl) ?_
  refine lv_iconst (v := 1) hx hb dX6_goThroughTimer_2 (by decide) ?_
  refine lv_isub hx hb dX6_goThroughTimer_3 ?_
  refine lv_topi (fun x1 e1 => ?_)
  refine lv_aload_n hx hb dX6_goThroughTimer_4 rfl (lv_at hl 0 rfl) ?_
  refine va_get (D := D) (ci := 6) (v := .ref ((a 2))) (C := RX6) (T := TX6) (N := 11) hx hb hts hi6 hown hK hP 0 rfl rfl 1 (by decide) (hts (.fieldLink RX6 21 "GuardedCalls" "clock" "LGuardedCalls$Clock;") (by decide +kernel)) (fun _ h9 => h9) rfl dX6_goThroughTimer_5 ?_
  refine va_getN (D := D) (ci := 1) (v := .int ((g 6))) (C := RX1) (T := TX1) (N := 2) hx hb hts hi1 hown hK hP 2 rfl rfl 1 (by decide) (nw_use hKK.2 (w := .fieldLinkNest "GuardedCalls" 221 "GuardedCalls$Clock" "now" "I" "GuardedCalls") (by decide +kernel)) (fun _ h9 => h9) rfl dX6_goThroughTimer_8 ?_
  refine lv_aload_n hx hb dX6_goThroughTimer_11 rfl (lv_at hl 0 rfl) ?_
  refine va_get (D := D) (ci := 6) (v := .int ((g 3))) (C := RX6) (T := TX6) (N := 11) hx hb hts hi6 hown hK hP 0 rfl rfl 10 (by decide) (hts (.fieldLink RX6 69 "GuardedCalls" "span" "I") (by decide +kernel)) (fun _ h9 => h9) rfl dX6_goThroughTimer_12 ?_
  refine lv_iadd hx hb dX6_goThroughTimer_15 ?_
  refine lv_topi (fun x2 e2 => ?_)
  refine gc_vi (As := [.int x1, .int x2]) (rest := []) (w0 := cw cI a g d F) (wc := cw cI a g d F) (wr := []) (wf := wfC cI a) ⟨hx, hb, hml, hown, hts⟩ hKK hok hP hD hS hA [0, 1, 2, 3, 4, 5, 6, 7, 8, 9, 10, 11] [] rfl rfl (by decide) (ih l D cI a _ g d F x1 x2 hI (by rw [e1]; exact lev_dn hlev h1)) (cwV 2 hts gX6_goThroughTimer_X6_goIn rfl rfl rfl (by decide +kernel) ⟨(show (4 * n + 10) + 1 ≤ (4 * n + 12) from by omega), (show 8 + (3 + 11) + ((80 * n + 200)) ≤ (80 * n + 240) from by omega)⟩) (va_recv hK hP (ci := 6) (q0 := 0) rfl rfl) rfl hl.1 rfl (Nat.le_of_ble_eq_true rfl) dX6_goThroughTimer_16 ⟨Nat.le_of_ble_eq_true rfl, Nat.le_of_ble_eq_true rfl⟩ (fun r3 u3 H locs hw3 hP hD hS => ?_)
  obtain ⟨g3, d3, F3⟩ := u3
  have hP : va_P D vwCl (cw cI a g3 d3 F3) H := hP
  have hD : va_D A (cw cI a g3 d3 F3) := hD
  exact W.iret (v := r3) hx hb hr (fun t ht hW => ⟨⟨_, (g3, d3, F3), rfl, ⟨trivial, hw3.2.1, hw3.2.2.1, hw3.2.2.2.1, hw3.2.2.2.2⟩, by rw [ht]; exact hP, hD⟩, hS.F ht⟩) hS.2.2 dX6_goThroughTimer_19
set_option maxHeartbeats 4000000 in
set_option maxRecDepth 100000 in
theorem s_goIn_zero (l : Launch) (D : va_G) (cI : ClassId) (a : Nat → Nat) (sz : Nat) (g : Nat → Int32) (d : Nat → UInt64) (F : Nat → Nat → Int32) (p_lv : Int32) (p_dl : Int32) (hI : CI g d) (hlev : p_lv.toInt ≤ 0) : Met l yX6_goIn wsX6_goIn ({ frames := 10, cells := 0, slots := 0, locals := 200 }) (gP (KC D cI) D (cw cI a g d F) sz [.ref (a 0), .int p_lv, .int p_dl]) (va_Qi (fun (r : Int32) (u : SS) => (True) ∧ CP g F u) (gB D (wfC cI a) (va_A (cw cI a g d F) sz)) (va_A (cw cI a g d F) sz)) 0 0 (va_A (cw cI a g d F) sz) := by
  refine Met.ofW (cc := cX6_goIn) (maxL := 3) (ret := (some .int)) (by decide) rfl ?_
  intro p e s m args below meth c s₁ B hml hv
  obtain ⟨rfl, hsz, hP, hD0, hKK⟩ := hv
  have hx := B.exec
  have hb := B.bytes
  have hr := B.returns
  have hts := atoms_spec (ws := wsX6_goIn) B.pre
  have hown : s.vm.findClass RX6 = some m.cls := findClass_of_methodNamed B.named
  have hlocks := B.notSynchronized
  subst hsz
  have hK := hKK.1
  have hok := KC_ok D cI
  have hD := hD0.self (sz := s.heap.size)
  generalize hAe : va_A (cw cI a g d F) s.heap.size = A at hD ⊢
  have hi6 : ∀ w ∈ wsX60, w ∈ wsX6_goIn := fun w h => List.mem_cons_of_mem _ (List.mem_append_left _ (List.mem_append_left _ (List.mem_append_left _ (List.mem_append_left _ (List.mem_append_left _ (List.mem_append_left _ (List.mem_append_right _ h)))))))
  have hi5 : ∀ w ∈ wsX50, w ∈ wsX6_goIn := fun w h => List.mem_cons_of_mem _ (List.mem_append_left _ (List.mem_append_left _ (List.mem_append_left _ (List.mem_append_left _ (List.mem_append_left _ (List.mem_append_right _ h))))))
  have hi2 : ∀ w ∈ wsX20, w ∈ wsX6_goIn := fun w h => List.mem_cons_of_mem _ (List.mem_append_left _ (List.mem_append_left _ (List.mem_append_left _ (List.mem_append_left _ (List.mem_append_right _ h)))))
  have hi1 : ∀ w ∈ wsX10, w ∈ wsX6_goIn := fun w h => List.mem_cons_of_mem _ (List.mem_append_left _ (List.mem_append_left _ (List.mem_append_left _ (List.mem_append_right _ h))))
  have hi0 : ∀ w ∈ wsX00, w ∈ wsX6_goIn := fun w h => List.mem_cons_of_mem _ (List.mem_append_left _ (List.mem_append_left _ (List.mem_append_right _ h)))
  have hi3 : ∀ w ∈ wsX30, w ∈ wsX6_goIn := fun w h => List.mem_cons_of_mem _ (List.mem_append_left _ (List.mem_append_right _ h))
  have hi4 : ∀ w ∈ wsX40, w ∈ wsX6_goIn := fun w h => List.mem_cons_of_mem _ (List.mem_append_right _ h)
  have hA : ∀ q : Nat, s.heap.size ≤ q → A q := fun q h => by rw [← hAe]; exact Or.inr h
  have hS : va_S A s.heap s.heap [] := va_S.rf
  have hP : va_P D vwCl (cw cI a g d F) s.heap := hP
  have hl := lv_entry ([.ref ((a 0)), .int p_lv, .int p_dl]) (n := 3) (Nat.le_of_ble_eq_true rfl)
  rw [lg_entry_eq]
  generalize (lg_sl ([.ref ((a 0)), .int p_lv, .int p_dl]) ++ List.replicate (3 - (lg_sl ([.ref ((a 0)), .int p_lv, .int p_dl])).length) Slot.unset).toArray = ls at hl ⊢
  have hl : lv_has ls 3 [(0, .ref ((a 0))), (1, .int p_lv), (2, .int p_dl)] := hl
  refine lv_iload_n hx hb dX6_goIn_0 rfl (lv_at hl 1 rfl) ?_
  refine lv_iconst (v := 1) hx hb dX6_goIn_1 (by decide) ?_
  refine lv_icmp_lt (tgt := 10) hx hb dX6_goIn_2 (by decide) (fun c1 => ?_) (fun c1 => ?_)
  · refine lv_aload_n hx hb dX6_goIn_10 rfl (lv_at hl 0 rfl) ?_
    refine va_get (D := D) (ci := 6) (v := .ref ((a 3))) (C := RX6) (T := TX6) (N := 11) hx hb hts hi6 hown hK hP 0 rfl rfl 2 (by decide) (hts (.fieldLink RX6 30 "GuardedCalls" "supplier" "LGuardedCalls$Supplier;") (by decide +kernel)) (fun _ h9 => h9) rfl dX6_goIn_11 ?_
    refine lv_iload_n hx hb dX6_goIn_14 rfl (lv_at hl 2 rfl) ?_
    refine gc_vi (As := [.int p_dl]) (rest := []) (w0 := cw cI a g d F) (wc := cw cI a g d F) (wr := []) (wf := wfC cI a) ⟨hx, hb, hml, hown, hts⟩ hKK hok hP hD hS hA [0, 1, 2, 3, 4, 5, 6, 7, 8, 9, 10, 11] [] rfl rfl (by decide) (s_X5_supply l D cI a _ g d F p_dl hI) (cwV 1 hts gX6_goIn_X5_supply rfl rfl rfl (by decide +kernel) ⟨(show 2 + 1 ≤ 10 from by omega), (show 8 + (3 + 11) + (43) ≤ 200 from by omega)⟩) (va_recv hK hP (ci := 5) (q0 := 3) rfl rfl) rfl hl.1 rfl (Nat.le_of_ble_eq_true rfl) dX6_goIn_15 ⟨Nat.le_of_ble_eq_true rfl, Nat.le_of_ble_eq_true rfl⟩ (fun r2 u2 H locs hw2 hP hD hS => ?_)
    obtain ⟨g2, d2, F2⟩ := u2
    have hP : va_P D vwCl (cw cI a g2 d2 F2) H := hP
    have hD : va_D A (cw cI a g2 d2 F2) := hD
    exact W.iret (v := r2) hx hb hr (fun t ht hW => ⟨⟨_, (g2, d2, F2), rfl, ⟨trivial, hw2.2.1, hw2.2.2.1, hw2.2.2.2.1, hw2.2.2.2.2⟩, by rw [ht]; exact hP, hD⟩, hS.F ht⟩) hS.2.2 dX6_goIn_18
  · exact absurd (lv1 c1) (by omega)
set_option maxHeartbeats 4000000 in
set_option maxRecDepth 100000 in
theorem s_goIn_step (n : Nat) (ih : GoInAt n) (l : Launch) (D : va_G) (cI : ClassId) (a : Nat → Nat) (sz : Nat) (g : Nat → Int32) (d : Nat → UInt64) (F : Nat → Nat → Int32) (p_lv : Int32) (p_dl : Int32) (hI : CI g d) (hlev : p_lv.toInt ≤ n + 1) : Met l yX6_goIn wsX6_goIn ({ frames := (4 * (n + 1) + 10), cells := 0, slots := 0, locals := (80 * (n + 1) + 200) }) (gP (KC D cI) D (cw cI a g d F) sz [.ref (a 0), .int p_lv, .int p_dl]) (va_Qi (fun (r : Int32) (u : SS) => (True) ∧ CP g F u) (gB D (wfC cI a) (va_A (cw cI a g d F) sz)) (va_A (cw cI a g d F) sz)) 0 0 (va_A (cw cI a g d F) sz) := by
  refine Met.ofW (cc := cX6_goIn) (maxL := 3) (ret := (some .int)) (by decide) rfl ?_
  intro p e s m args below meth c s₁ B hml hv
  obtain ⟨rfl, hsz, hP, hD0, hKK⟩ := hv
  have hx := B.exec
  have hb := B.bytes
  have hr := B.returns
  have hts := atoms_spec (ws := wsX6_goIn) B.pre
  have hown : s.vm.findClass RX6 = some m.cls := findClass_of_methodNamed B.named
  have hlocks := B.notSynchronized
  subst hsz
  have hK := hKK.1
  have hok := KC_ok D cI
  have hD := hD0.self (sz := s.heap.size)
  generalize hAe : va_A (cw cI a g d F) s.heap.size = A at hD ⊢
  have hi6 : ∀ w ∈ wsX60, w ∈ wsX6_goIn := fun w h => List.mem_cons_of_mem _ (List.mem_append_left _ (List.mem_append_left _ (List.mem_append_left _ (List.mem_append_left _ (List.mem_append_left _ (List.mem_append_left _ (List.mem_append_right _ h)))))))
  have hi5 : ∀ w ∈ wsX50, w ∈ wsX6_goIn := fun w h => List.mem_cons_of_mem _ (List.mem_append_left _ (List.mem_append_left _ (List.mem_append_left _ (List.mem_append_left _ (List.mem_append_left _ (List.mem_append_right _ h))))))
  have hi2 : ∀ w ∈ wsX20, w ∈ wsX6_goIn := fun w h => List.mem_cons_of_mem _ (List.mem_append_left _ (List.mem_append_left _ (List.mem_append_left _ (List.mem_append_left _ (List.mem_append_right _ h)))))
  have hi1 : ∀ w ∈ wsX10, w ∈ wsX6_goIn := fun w h => List.mem_cons_of_mem _ (List.mem_append_left _ (List.mem_append_left _ (List.mem_append_left _ (List.mem_append_right _ h))))
  have hi0 : ∀ w ∈ wsX00, w ∈ wsX6_goIn := fun w h => List.mem_cons_of_mem _ (List.mem_append_left _ (List.mem_append_left _ (List.mem_append_right _ h)))
  have hi3 : ∀ w ∈ wsX30, w ∈ wsX6_goIn := fun w h => List.mem_cons_of_mem _ (List.mem_append_left _ (List.mem_append_right _ h))
  have hi4 : ∀ w ∈ wsX40, w ∈ wsX6_goIn := fun w h => List.mem_cons_of_mem _ (List.mem_append_right _ h)
  have hA : ∀ q : Nat, s.heap.size ≤ q → A q := fun q h => by rw [← hAe]; exact Or.inr h
  have hS : va_S A s.heap s.heap [] := va_S.rf
  have hP : va_P D vwCl (cw cI a g d F) s.heap := hP
  have hl := lv_entry ([.ref ((a 0)), .int p_lv, .int p_dl]) (n := 3) (Nat.le_of_ble_eq_true rfl)
  rw [lg_entry_eq]
  generalize (lg_sl ([.ref ((a 0)), .int p_lv, .int p_dl]) ++ List.replicate (3 - (lg_sl ([.ref ((a 0)), .int p_lv, .int p_dl])).length) Slot.unset).toArray = ls at hl ⊢
  have hl : lv_has ls 3 [(0, .ref ((a 0))), (1, .int p_lv), (2, .int p_dl)] := hl
  refine lv_iload_n hx hb dX6_goIn_0 rfl (lv_at hl 1 rfl) ?_
  refine lv_iconst (v := 1) hx hb dX6_goIn_1 (by decide) ?_
  refine lv_icmp_lt (tgt := 10) hx hb dX6_goIn_2 (by decide) (fun c1 => ?_) (fun c1 => ?_)
  · refine lv_aload_n hx hb dX6_goIn_10 rfl (lv_at hl 0 rfl) ?_
    refine va_get (D := D) (ci := 6) (v := .ref ((a 3))) (C := RX6) (T := TX6) (N := 11) hx hb hts hi6 hown hK hP 0 rfl rfl 2 (by decide) (hts (.fieldLink RX6 30 "GuardedCalls" "supplier" "LGuardedCalls$Supplier;") (by decide +kernel)) (fun _ h9 => h9) rfl dX6_goIn_11 ?_
    refine lv_iload_n hx hb dX6_goIn_14 rfl (lv_at hl 2 rfl) ?_
    refine gc_vi (As := [.int p_dl]) (rest := []) (w0 := cw cI a g d F) (wc := cw cI a g d F) (wr := []) (wf := wfC cI a) ⟨hx, hb, hml, hown, hts⟩ hKK hok hP hD hS hA [0, 1, 2, 3, 4, 5, 6, 7, 8, 9, 10, 11] [] rfl rfl (by decide) (s_X5_supply l D cI a _ g d F p_dl hI) (cwV 1 hts gX6_goIn_X5_supply rfl rfl rfl (by decide +kernel) ⟨(show 2 + 1 ≤ (4 * (n + 1) + 10) from by omega), (show 8 + (3 + 11) + (43) ≤ (80 * (n + 1) + 200) from by omega)⟩) (va_recv hK hP (ci := 5) (q0 := 3) rfl rfl) rfl hl.1 rfl (Nat.le_of_ble_eq_true rfl) dX6_goIn_15 ⟨Nat.le_of_ble_eq_true rfl, Nat.le_of_ble_eq_true rfl⟩ (fun r2 u2 H locs hw2 hP hD hS => ?_)
    obtain ⟨g2, d2, F2⟩ := u2
    have hP : va_P D vwCl (cw cI a g2 d2 F2) H := hP
    have hD : va_D A (cw cI a g2 d2 F2) := hD
    exact W.iret (v := r2) hx hb hr (fun t ht hW => ⟨⟨_, (g2, d2, F2), rfl, ⟨trivial, hw2.2.1, hw2.2.2.1, hw2.2.2.2.1, hw2.2.2.2.2⟩, by rw [ht]; exact hP, hD⟩, hS.F ht⟩) hS.2.2 dX6_goIn_18
  · refine lv_iload_n hx hb dX6_goIn_5 rfl (lv_at hl 1 rfl) ?_
    refine lv_iconst (v := 5) hx hb dX6_goIn_6 (by decide) ?_
    refine lv_icmp_le (tgt := 19) hx hb dX6_goIn_7 (by decide) (fun c3 => ?_) (fun c3 => ?_)
    · refine lv_aload_n hx hb dX6_goIn_19 rfl (lv_at hl 0 rfl) ?_
      refine va_get (D := D) (ci := 6) (v := .ref ((a 7))) (C := RX6) (T := TX6) (N := 11) hx hb hts hi6 hown hK hP 0 rfl rfl 6 (by decide) (hts (.fieldLink RX6 55 "GuardedCalls" "stack" "[I") (by decide +kernel)) (fun _ h9 => h9) rfl dX6_goIn_20 ?_
      refine lv_iload_n hx hb dX6_goIn_23 rfl (lv_at hl 1 rfl) ?_
      refine lv_iconst (v := 1) hx hb dX6_goIn_24 (by decide) ?_
      refine lv_isub hx hb dX6_goIn_25 ?_
      refine lv_topi (fun x4 e4 => ?_)
      refine va_iald (D := D) hx hb hK hP 7 0 (f := (F 0)) (n := 5) rfl rfl (by rw [e4]; exact lev_in c1 c3) dX6_goIn_26 ?_
      refine lv_topi (fun x5 e5 => ?_)
      rcases sw_4 x5 with h6 | h6 | h6 | h6 | h6 | h6
      · refine lv_tableOut (tgt := 88) hx hb dX6_goIn_27 h6 (by decide) ?_
        refine lv_aload_n hx hb dX6_goIn_88 rfl (lv_at hl 0 rfl) ?_
        refine lv_iload_n hx hb dX6_goIn_89 rfl (lv_at hl 1 rfl) ?_
        refine gc_vi (As := [.int p_lv]) (rest := []) (w0 := cw cI a g d F) (wc := cw cI a g d F) (wr := []) (wf := wfC cI a) ⟨hx, hb, hml, hown, hts⟩ hKK hok hP hD hS hA [0, 1, 2, 3, 4, 5, 6, 7, 8, 9, 10, 11] [] rfl rfl (by decide) (s_X6_goThroughTimer n ih l D cI a _ g d F p_lv hI hlev (lv1 c1)) (cwV 1 hts gX6_goIn_X6_goThroughTimer rfl rfl rfl (by decide +kernel) ⟨(show (4 * n + 12) + 1 ≤ (4 * (n + 1) + 10) from by omega), (show 8 + (2 + 11) + ((80 * n + 240)) ≤ (80 * (n + 1) + 200) from by omega)⟩) (va_recv hK hP (ci := 6) (q0 := 0) rfl rfl) rfl hl.1 rfl (Nat.le_of_ble_eq_true rfl) dX6_goIn_90 ⟨Nat.le_of_ble_eq_true rfl, Nat.le_of_ble_eq_true rfl⟩ (fun r7 u7 H locs hw7 hP hD hS => ?_)
        obtain ⟨g7, d7, F7⟩ := u7
        have hP : va_P D vwCl (cw cI a g7 d7 F7) H := hP
        have hD : va_D A (cw cI a g7 d7 F7) := hD
        exact W.iret (v := r7) hx hb hr (fun t ht hW => ⟨⟨_, (g7, d7, F7), rfl, ⟨trivial, hw7.2.1, hw7.2.2.1, hw7.2.2.2.1, hw7.2.2.2.2⟩, by rw [ht]; exact hP, hD⟩, hS.F ht⟩) hS.2.2 dX6_goIn_93
      · refine lv_tableIn (off := 33) (tgt := 60) hx hb dX6_goIn_27 (by rw [h6]; decide) (by rw [h6]; decide) (by rw [h6]; rfl) (by decide) ?_
        refine lv_aload_n hx hb dX6_goIn_60 rfl (lv_at hl 0 rfl) ?_
        refine lv_iload_n hx hb dX6_goIn_61 rfl (lv_at hl 1 rfl) ?_
        refine lv_iload_n hx hb dX6_goIn_62 rfl (lv_at hl 2 rfl) ?_
        refine gc_vi (As := [.int p_lv, .int p_dl]) (rest := []) (w0 := cw cI a g d F) (wc := cw cI a g d F) (wr := []) (wf := wfC cI a) ⟨hx, hb, hml, hown, hts⟩ hKK hok hP hD hS hA [0, 1, 2, 3, 4, 5, 6, 7, 8, 9, 10, 11] [] rfl rfl (by decide) (s_X6_goThroughBreaker n ih l D cI a _ g d F p_lv p_dl hI hlev (lv1 c1)) (cwV 2 hts gX6_goIn_X6_goThroughBreaker rfl rfl rfl (by decide +kernel) ⟨(show (4 * n + 12) + 1 ≤ (4 * (n + 1) + 10) from by omega), (show 8 + (5 + 11) + ((80 * n + 240)) ≤ (80 * (n + 1) + 200) from by omega)⟩) (va_recv hK hP (ci := 6) (q0 := 0) rfl rfl) rfl hl.1 rfl (Nat.le_of_ble_eq_true rfl) dX6_goIn_63 ⟨Nat.le_of_ble_eq_true rfl, Nat.le_of_ble_eq_true rfl⟩ (fun r8 u8 H locs hw8 hP hD hS => ?_)
        obtain ⟨g8, d8, F8⟩ := u8
        have hP : va_P D vwCl (cw cI a g8 d8 F8) H := hP
        have hD : va_D A (cw cI a g8 d8 F8) := hD
        exact W.iret (v := r8) hx hb hr (fun t ht hW => ⟨⟨_, (g8, d8, F8), rfl, ⟨trivial, hw8.2.1, hw8.2.2.1, hw8.2.2.2.1, hw8.2.2.2.2⟩, by rw [ht]; exact hP, hD⟩, hS.F ht⟩) hS.2.2 dX6_goIn_66
      · refine lv_tableIn (off := 40) (tgt := 67) hx hb dX6_goIn_27 (by rw [h6]; decide) (by rw [h6]; decide) (by rw [h6]; rfl) (by decide) ?_
        refine lv_aload_n hx hb dX6_goIn_67 rfl (lv_at hl 0 rfl) ?_
        refine lv_iload_n hx hb dX6_goIn_68 rfl (lv_at hl 1 rfl) ?_
        refine lv_iload_n hx hb dX6_goIn_69 rfl (lv_at hl 2 rfl) ?_
        refine gc_vi (As := [.int p_lv, .int p_dl]) (rest := []) (w0 := cw cI a g d F) (wc := cw cI a g d F) (wr := []) (wf := wfC cI a) ⟨hx, hb, hml, hown, hts⟩ hKK hok hP hD hS hA [0, 1, 2, 3, 4, 5, 6, 7, 8, 9, 10, 11] [] rfl rfl (by decide) (s_X6_goThroughBulkhead n ih l D cI a _ g d F p_lv p_dl hI hlev (lv1 c1)) (cwV 2 hts gX6_goIn_X6_goThroughBulkhead rfl rfl rfl (by decide +kernel) ⟨(show (4 * n + 12) + 1 ≤ (4 * (n + 1) + 10) from by omega), (show 8 + (3 + 11) + ((80 * n + 240)) ≤ (80 * (n + 1) + 200) from by omega)⟩) (va_recv hK hP (ci := 6) (q0 := 0) rfl rfl) rfl hl.1 rfl (Nat.le_of_ble_eq_true rfl) dX6_goIn_70 ⟨Nat.le_of_ble_eq_true rfl, Nat.le_of_ble_eq_true rfl⟩ (fun r9 u9 H locs hw9 hP hD hS => ?_)
        obtain ⟨g9, d9, F9⟩ := u9
        have hP : va_P D vwCl (cw cI a g9 d9 F9) H := hP
        have hD : va_D A (cw cI a g9 d9 F9) := hD
        exact W.iret (v := r9) hx hb hr (fun t ht hW => ⟨⟨_, (g9, d9, F9), rfl, ⟨trivial, hw9.2.1, hw9.2.2.1, hw9.2.2.2.1, hw9.2.2.2.2⟩, by rw [ht]; exact hP, hD⟩, hS.F ht⟩) hS.2.2 dX6_goIn_73
      · refine lv_tableIn (off := 47) (tgt := 74) hx hb dX6_goIn_27 (by rw [h6]; decide) (by rw [h6]; decide) (by rw [h6]; rfl) (by decide) ?_
        refine lv_aload_n hx hb dX6_goIn_74 rfl (lv_at hl 0 rfl) ?_
        refine lv_iload_n hx hb dX6_goIn_75 rfl (lv_at hl 1 rfl) ?_
        refine lv_iload_n hx hb dX6_goIn_76 rfl (lv_at hl 2 rfl) ?_
        refine gc_vi (As := [.int p_lv, .int p_dl]) (rest := []) (w0 := cw cI a g d F) (wc := cw cI a g d F) (wr := []) (wf := wfC cI a) ⟨hx, hb, hml, hown, hts⟩ hKK hok hP hD hS hA [0, 1, 2, 3, 4, 5, 6, 7, 8, 9, 10, 11] [] rfl rfl (by decide) (s_X6_goThroughLimiter n ih l D cI a _ g d F p_lv p_dl hI hlev (lv1 c1)) (cwV 2 hts gX6_goIn_X6_goThroughLimiter rfl rfl rfl (by decide +kernel) ⟨(show (4 * n + 12) + 1 ≤ (4 * (n + 1) + 10) from by omega), (show 8 + (4 + 11) + ((80 * n + 240)) ≤ (80 * (n + 1) + 200) from by omega)⟩) (va_recv hK hP (ci := 6) (q0 := 0) rfl rfl) rfl hl.1 rfl (Nat.le_of_ble_eq_true rfl) dX6_goIn_77 ⟨Nat.le_of_ble_eq_true rfl, Nat.le_of_ble_eq_true rfl⟩ (fun r10 u10 H locs hw10 hP hD hS => ?_)
        obtain ⟨g10, d10, F10⟩ := u10
        have hP : va_P D vwCl (cw cI a g10 d10 F10) H := hP
        have hD : va_D A (cw cI a g10 d10 F10) := hD
        exact W.iret (v := r10) hx hb hr (fun t ht hW => ⟨⟨_, (g10, d10, F10), rfl, ⟨trivial, hw10.2.1, hw10.2.2.1, hw10.2.2.2.1, hw10.2.2.2.2⟩, by rw [ht]; exact hP, hD⟩, hS.F ht⟩) hS.2.2 dX6_goIn_80
      · refine lv_tableIn (off := 54) (tgt := 81) hx hb dX6_goIn_27 (by rw [h6]; decide) (by rw [h6]; decide) (by rw [h6]; rfl) (by decide) ?_
        refine lv_aload_n hx hb dX6_goIn_81 rfl (lv_at hl 0 rfl) ?_
        refine lv_iload_n hx hb dX6_goIn_82 rfl (lv_at hl 1 rfl) ?_
        refine lv_iload_n hx hb dX6_goIn_83 rfl (lv_at hl 2 rfl) ?_
        refine gc_vi (As := [.int p_lv, .int p_dl]) (rest := []) (w0 := cw cI a g d F) (wc := cw cI a g d F) (wr := []) (wf := wfC cI a) ⟨hx, hb, hml, hown, hts⟩ hKK hok hP hD hS hA [0, 1, 2, 3, 4, 5, 6, 7, 8, 9, 10, 11] [] rfl rfl (by decide) (s_X6_goThroughRetry n ih l D cI a _ g d F p_lv p_dl hI hlev (lv1 c1)) (cwV 2 hts gX6_goIn_X6_goThroughRetry rfl rfl rfl (by decide +kernel) ⟨(show (4 * n + 12) + 1 ≤ (4 * (n + 1) + 10) from by omega), (show 8 + (5 + 11) + ((80 * n + 240)) ≤ (80 * (n + 1) + 200) from by omega)⟩) (va_recv hK hP (ci := 6) (q0 := 0) rfl rfl) rfl hl.1 rfl (Nat.le_of_ble_eq_true rfl) dX6_goIn_84 ⟨Nat.le_of_ble_eq_true rfl, Nat.le_of_ble_eq_true rfl⟩ (fun r11 u11 H locs hw11 hP hD hS => ?_)
        obtain ⟨g11, d11, F11⟩ := u11
        have hP : va_P D vwCl (cw cI a g11 d11 F11) H := hP
        have hD : va_D A (cw cI a g11 d11 F11) := hD
        exact W.iret (v := r11) hx hb hr (fun t ht hW => ⟨⟨_, (g11, d11, F11), rfl, ⟨trivial, hw11.2.1, hw11.2.2.1, hw11.2.2.2.1, hw11.2.2.2.2⟩, by rw [ht]; exact hP, hD⟩, hS.F ht⟩) hS.2.2 dX6_goIn_87
      · refine lv_tableIn (off := 61) (tgt := 88) hx hb dX6_goIn_27 (by rw [h6]; decide) (by rw [h6]; decide) (by rw [h6]; rfl) (by decide) ?_
        refine lv_aload_n hx hb dX6_goIn_88 rfl (lv_at hl 0 rfl) ?_
        refine lv_iload_n hx hb dX6_goIn_89 rfl (lv_at hl 1 rfl) ?_
        refine gc_vi (As := [.int p_lv]) (rest := []) (w0 := cw cI a g d F) (wc := cw cI a g d F) (wr := []) (wf := wfC cI a) ⟨hx, hb, hml, hown, hts⟩ hKK hok hP hD hS hA [0, 1, 2, 3, 4, 5, 6, 7, 8, 9, 10, 11] [] rfl rfl (by decide) (s_X6_goThroughTimer n ih l D cI a _ g d F p_lv hI hlev (lv1 c1)) (cwV 1 hts gX6_goIn_X6_goThroughTimer rfl rfl rfl (by decide +kernel) ⟨(show (4 * n + 12) + 1 ≤ (4 * (n + 1) + 10) from by omega), (show 8 + (2 + 11) + ((80 * n + 240)) ≤ (80 * (n + 1) + 200) from by omega)⟩) (va_recv hK hP (ci := 6) (q0 := 0) rfl rfl) rfl hl.1 rfl (Nat.le_of_ble_eq_true rfl) dX6_goIn_90 ⟨Nat.le_of_ble_eq_true rfl, Nat.le_of_ble_eq_true rfl⟩ (fun r12 u12 H locs hw12 hP hD hS => ?_)
        obtain ⟨g12, d12, F12⟩ := u12
        have hP : va_P D vwCl (cw cI a g12 d12 F12) H := hP
        have hD : va_D A (cw cI a g12 d12 F12) := hD
        exact W.iret (v := r12) hx hb hr (fun t ht hW => ⟨⟨_, (g12, d12, F12), rfl, ⟨trivial, hw12.2.1, hw12.2.2.1, hw12.2.2.2.1, hw12.2.2.2.2⟩, by rw [ht]; exact hP, hD⟩, hS.F ht⟩) hS.2.2 dX6_goIn_93
    · refine lv_aload_n hx hb dX6_goIn_10 rfl (lv_at hl 0 rfl) ?_
      refine va_get (D := D) (ci := 6) (v := .ref ((a 3))) (C := RX6) (T := TX6) (N := 11) hx hb hts hi6 hown hK hP 0 rfl rfl 2 (by decide) (hts (.fieldLink RX6 30 "GuardedCalls" "supplier" "LGuardedCalls$Supplier;") (by decide +kernel)) (fun _ h9 => h9) rfl dX6_goIn_11 ?_
      refine lv_iload_n hx hb dX6_goIn_14 rfl (lv_at hl 2 rfl) ?_
      refine gc_vi (As := [.int p_dl]) (rest := []) (w0 := cw cI a g d F) (wc := cw cI a g d F) (wr := []) (wf := wfC cI a) ⟨hx, hb, hml, hown, hts⟩ hKK hok hP hD hS hA [0, 1, 2, 3, 4, 5, 6, 7, 8, 9, 10, 11] [] rfl rfl (by decide) (s_X5_supply l D cI a _ g d F p_dl hI) (cwV 1 hts gX6_goIn_X5_supply rfl rfl rfl (by decide +kernel) ⟨(show 2 + 1 ≤ (4 * (n + 1) + 10) from by omega), (show 8 + (3 + 11) + (43) ≤ (80 * (n + 1) + 200) from by omega)⟩) (va_recv hK hP (ci := 5) (q0 := 3) rfl rfl) rfl hl.1 rfl (Nat.le_of_ble_eq_true rfl) dX6_goIn_15 ⟨Nat.le_of_ble_eq_true rfl, Nat.le_of_ble_eq_true rfl⟩ (fun r13 u13 H locs hw13 hP hD hS => ?_)
      obtain ⟨g13, d13, F13⟩ := u13
      have hP : va_P D vwCl (cw cI a g13 d13 F13) H := hP
      have hD : va_D A (cw cI a g13 d13 F13) := hD
      exact W.iret (v := r13) hx hb hr (fun t ht hW => ⟨⟨_, (g13, d13, F13), rfl, ⟨trivial, hw13.2.1, hw13.2.2.1, hw13.2.2.2.1, hw13.2.2.2.2⟩, by rw [ht]; exact hP, hD⟩, hS.F ht⟩) hS.2.2 dX6_goIn_18
theorem s_goIn : ∀ n : Nat, GoInAt n := by
  intro n
  induction n with
  | zero => exact fun l D cI a sz g d F p_lv p_dl hI hlev => s_goIn_zero l D cI a sz g d F p_lv p_dl hI (by simpa using hlev)
  | succ n ih => exact fun l D cI a sz g d F p_lv p_dl hI hlev => s_goIn_step n ih l D cI a sz g d F p_lv p_dl hI (by simpa using hlev)
set_option maxHeartbeats 4000000 in
set_option maxRecDepth 100000 in
theorem s_X6_lay (l : Launch) (D : va_G) (cI : ClassId) (a : Nat → Nat) (sz : Nat) (g : Nat → Int32) (d : Nat → UInt64) (F : Nat → Nat → Int32) (p_k : Int32) (hI : CI g d) (h0 : 0 ≤ (g 0).toInt) (h5 : (g 0).toInt ≤ 5) : Met l yX6_lay wsX6_lay ({ frames := 1, cells := 0, slots := 0, locals := 22 }) (gP (KC D cI) D (cw cI a g d F) sz [.ref (a 0), .int p_k]) (va_Qi (fun (r : Int32) (u : SS) => 0 ≤ (u.1 0).toInt ∧ (u.1 0).toInt ≤ 5 ∧ CI u.1 u.2.1 ∧ u.1 2 = g 2) (gB D (wfC cI a) (va_A (cw cI a g d F) sz)) (va_A (cw cI a g d F) sz)) 0 0 (va_A (cw cI a g d F) sz) := by
  refine Met.ofW (cc := cX6_lay) (maxL := 2) (ret := (some .int)) (by decide) rfl ?_
  intro p e s m args below meth c s₁ B hml hv
  obtain ⟨rfl, hsz, hP, hD0, hKK⟩ := hv
  have hx := B.exec
  have hb := B.bytes
  have hr := B.returns
  have hts := atoms_spec (ws := wsX6_lay) B.pre
  have hown : s.vm.findClass RX6 = some m.cls := findClass_of_methodNamed B.named
  have hlocks := B.notSynchronized
  subst hsz
  have hK := hKK.1
  have hok := KC_ok D cI
  have hD := hD0.self (sz := s.heap.size)
  generalize hAe : va_A (cw cI a g d F) s.heap.size = A at hD ⊢
  have hi6 : ∀ w ∈ wsX60, w ∈ wsX6_lay := fun w h => List.mem_cons_of_mem _ (List.mem_append_right _ h)
  have hA : ∀ q : Nat, s.heap.size ≤ q → A q := fun q h => by rw [← hAe]; exact Or.inr h
  have hS : va_S A s.heap s.heap [] := va_S.rf
  have hP : va_P D vwCl (cw cI a g d F) s.heap := hP
  have hl := lv_entry ([.ref ((a 0)), .int p_k]) (n := 2) (Nat.le_of_ble_eq_true rfl)
  rw [lg_entry_eq]
  generalize (lg_sl ([.ref ((a 0)), .int p_k]) ++ List.replicate (2 - (lg_sl ([.ref ((a 0)), .int p_k])).length) Slot.unset).toArray = ls at hl ⊢
  have hl : lv_has ls 2 [(0, .ref ((a 0))), (1, .int p_k)] := hl
  refine lv_iload_n hx hb dX6_lay_0 rfl (lv_at hl 1 rfl) ?_
  refine lv_iconst (v := 0) hx hb dX6_lay_1 (by decide) ?_
  refine lv_iconst (v := 4) hx hb dX6_lay_2 (by decide) ?_
  refine gc_si (As := [.int p_k, .int 0, .int 4]) (rest := []) ⟨hx, hb, hml, hown, hts⟩ hP hD hS hA (c_X6_isWithin l _ p_k 0 4) (va_cwS 3 hts gX6_lay_X6_isWithin rfl rfl rfl (by decide +kernel) ⟨Nat.le_of_ble_eq_true rfl, Nat.le_of_ble_eq_true rfl⟩) rfl hl.1 rfl (Nat.le_of_ble_eq_true rfl) dX6_lay_3 ⟨Nat.le_of_ble_eq_true rfl, Nat.le_of_ble_eq_true rfl⟩ (fun r1 H locs hw1 hP hS => ?_)
  subst hw1
  refine lv_if_eq (tgt := 25) hx hb dX6_lay_6 (by decide) (fun c2 => ?_) (fun c2 => ?_)
  · refine lv_iconst (v := (-1)) hx hb dX6_lay_25 (by decide) ?_
    exact W.iret (v := ((-1))) hx hb hr (fun t ht hW => ⟨⟨_, (g, d, F), rfl, ⟨h0, h5, hI, rfl⟩, by rw [ht]; exact hP, hD⟩, hS.F ht⟩) hS.2.2 dX6_lay_26
  · refine lv_aload_n hx hb dX6_lay_9 rfl (lv_at hl 0 rfl) ?_
    refine lv_iload_n hx hb dX6_lay_10 rfl (lv_at hl 1 rfl) ?_
    refine gc_vi (As := [.int p_k]) (rest := []) (w0 := cw cI a g d F) (wc := cw cI a g d F) (wr := []) (wf := wfC cI a) ⟨hx, hb, hml, hown, hts⟩ hKK hok hP hD hS hA [0, 1, 2, 3, 4, 5, 6, 7, 8, 9, 10, 11] [] rfl rfl (by decide) (s_X6_lies l D cI a _ g d F p_k) (cwV 1 hts gX6_lay_X6_lies rfl rfl rfl (by decide +kernel) ⟨Nat.le_of_ble_eq_true rfl, Nat.le_of_ble_eq_true rfl⟩) (va_recv hK hP (ci := 6) (q0 := 0) rfl rfl) rfl hl.1 rfl (Nat.le_of_ble_eq_true rfl) dX6_lay_11 ⟨Nat.le_of_ble_eq_true rfl, Nat.le_of_ble_eq_true rfl⟩ (fun r3 u3 H locs hw3 hP hD hS => ?_)
    obtain ⟨hr3, rfl⟩ := hw3
    have hP : va_P D vwCl (cw cI a g d F) H := hP
    have hD : va_D A (cw cI a g d F) := hD
    refine lv_if_ne (tgt := 25) hx hb dX6_lay_14 (by decide) (fun c4 => ?_) (fun c4 => ?_)
    · refine lv_iconst (v := (-1)) hx hb dX6_lay_25 (by decide) ?_
      exact W.iret (v := ((-1))) hx hb hr (fun t ht hW => ⟨⟨_, (g, d, F), rfl, ⟨h0, h5, hI, rfl⟩, by rw [ht]; exact hP, hD⟩, hS.F ht⟩) hS.2.2 dX6_lay_26
    · refine lv_aload_n hx hb dX6_lay_17 rfl (lv_at hl 0 rfl) ?_
      refine va_get (D := D) (ci := 6) (v := .int ((g 0))) (C := RX6) (T := TX6) (N := 11) hx hb hts hi6 hown hK hP 0 rfl rfl 7 (by decide) (hts (.fieldLink RX6 59 "GuardedCalls" "laid" "I") (by decide +kernel)) (fun _ h9 => h9) rfl dX6_lay_18 ?_
      refine lv_iconst (v := 5) hx hb dX6_lay_21 (by decide) ?_
      refine lv_icmp_lt (tgt := 27) hx hb dX6_lay_22 (by decide) (fun c5 => ?_) (fun c5 => ?_)
      · refine lv_aload_n hx hb dX6_lay_27 rfl (lv_at hl 0 rfl) ?_
        refine va_get (D := D) (ci := 6) (v := .ref ((a 7))) (C := RX6) (T := TX6) (N := 11) hx hb hts hi6 hown hK hP 0 rfl rfl 6 (by decide) (hts (.fieldLink RX6 55 "GuardedCalls" "stack" "[I") (by decide +kernel)) (fun _ h9 => h9) rfl dX6_lay_28 ?_
        refine lv_aload_n hx hb dX6_lay_31 rfl (lv_at hl 0 rfl) ?_
        refine va_get (D := D) (ci := 6) (v := .int ((g 0))) (C := RX6) (T := TX6) (N := 11) hx hb hts hi6 hown hK hP 0 rfl rfl 7 (by decide) (hts (.fieldLink RX6 59 "GuardedCalls" "laid" "I") (by decide +kernel)) (fun _ h9 => h9) rfl dX6_lay_32 ?_
        refine lv_iload_n hx hb dX6_lay_35 rfl (lv_at hl 1 rfl) ?_
        refine va_iast (D := D) hx hb hK hP hD hS 7 0 (f := (F 0)) (n := 5) rfl rfl (vp_in_iff.mpr ⟨h0, by have h9 := c5; rw [Int32.lt_iff_toInt_lt, show (5 : Int32).toInt = 5 from rfl] at h9; omega⟩) dX6_lay_36 (fun H locs hP hD hS => ?_)
        have hP : va_P D vwCl (cw cI a g d (vf_upd F 0 (upd (F 0) ((g 0)).toNatClampNeg p_k))) H := hP
        have hD : va_D A (cw cI a g d (vf_upd F 0 (upd (F 0) ((g 0)).toNatClampNeg p_k))) := hD
        refine lv_aload_n hx hb dX6_lay_37 rfl (lv_at hl 0 rfl) ?_
        refine lv_dup hx hb dX6_lay_38 rfl ?_
        refine va_get (D := D) (ci := 6) (v := .int ((g 0))) (C := RX6) (T := TX6) (N := 11) hx hb hts hi6 hown hK hP 0 rfl rfl 7 (by decide) (hts (.fieldLink RX6 59 "GuardedCalls" "laid" "I") (by decide +kernel)) (fun _ h9 => h9) rfl dX6_lay_39 ?_
        refine lv_iconst (v := 1) hx hb dX6_lay_42 (by decide) ?_
        refine lv_iadd hx hb dX6_lay_43 ?_
        refine lv_topi (fun x6 e6 => ?_)
        refine va_put (D := D) (ci := 6) (v := .int x6) (ty := .int) (C := RX6) (T := TX6) (N := 11) hx hb hts hi6 tyX6 tyX6_ok nmX6 hown hK hP hD hS 0 rfl rfl 7 (by decide) (hts (.fieldLink RX6 59 "GuardedCalls" "laid" "I") (by decide +kernel)) (fun _ h9 => h9) rfl (by decide +kernel) rfl rfl (Nat.le_of_ble_eq_true rfl) dX6_lay_44 (fun H locs hP hD hS => ?_)
        have hP : va_P D vwCl (cw cI a (upd g 0 x6) d (vf_upd F 0 (upd (F 0) ((g 0)).toNatClampNeg p_k))) H := hP
        have hD : va_D A (cw cI a (upd g 0 x6) d (vf_upd F 0 (upd (F 0) ((g 0)).toNatClampNeg p_k))) := hD
        refine lv_aload_n hx hb dX6_lay_47 rfl (lv_at hl 0 rfl) ?_
        refine va_get (D := D) (ci := 6) (v := .int x6) (C := RX6) (T := TX6) (N := 11) hx hb hts hi6 hown hK hP 0 rfl rfl 7 (by decide) (hts (.fieldLink RX6 59 "GuardedCalls" "laid" "I") (by decide +kernel)) (fun _ h9 => h9) rfl dX6_lay_48 ?_
        exact W.iret (v := x6) hx hb hr (fun t ht hW => ⟨⟨_, (upd g 0 x6, d, vf_upd F 0 (upd (F 0) ((g 0)).toNatClampNeg p_k)), rfl, ⟨by show 0 ≤ (x6).toInt; rw [e6, i_inc (lt_nge c5)]; omega, by show (x6).toInt ≤ 5; rw [e6, i_inc (lt_nge c5)]; have h9 := i_lt (lt_nge c5); rw [show (5 : Int32).toInt = 5 from rfl] at h9; omega, hI, rfl⟩, by rw [ht]; exact hP, hD⟩, hS.F ht⟩) hS.2.2 dX6_lay_51
      · refine lv_iconst (v := (-1)) hx hb dX6_lay_25 (by decide) ?_
        exact W.iret (v := ((-1))) hx hb hr (fun t ht hW => ⟨⟨_, (g, d, F), rfl, ⟨h0, h5, hI, rfl⟩, by rw [ht]; exact hP, hD⟩, hS.F ht⟩) hS.2.2 dX6_lay_26
