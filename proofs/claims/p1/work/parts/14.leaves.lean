set_option maxHeartbeats 4000000 in
set_option maxRecDepth 100000 in
/-- an event comes into the ring -/
theorem c_X2_add (l : Launch) (D : va_G) (cI : ClassId) (a : Nat → Nat) (sz : Nat) (g : Nat → Int32) (d : Nat → UInt64) (F : Nat → Nat → Int32) (p_ev : Int32) (h4 : vp_in (g 4) 8) : Met l yX2_add wsX2_add ({ frames := 0, cells := 0, slots := 0, locals := 0 }) (gP (KC D cI) D (cw cI a g d F) sz [.ref (a 1), .int p_ev]) (va_Qv (fun (u : SS) => ARel g d F u) (gB D (wfC cI a) (va_A (cw cI a g d F) sz)) (va_A (cw cI a g d F) sz)) 0 0 (va_A (cw cI a g d F) sz) := by
  refine Met.ofW (cc := cX2_add) (maxL := 2) (ret := none) (by decide) rfl ?_
  intro p e s m args below meth c s₁ B hml hv
  obtain ⟨rfl, hsz, hP, hD0, hKK⟩ := hv
  have hx := B.exec
  have hb := B.bytes
  have hr := B.returns
  have hts := atoms_spec (ws := wsX2_add) B.pre
  have hown : s.vm.findClass RX2 = some m.cls := findClass_of_methodNamed B.named
  have hlocks := B.notSynchronized
  subst hsz
  have hK := hKK.1
  have hok := KC_ok D cI
  have hD := hD0.self (sz := s.heap.size)
  generalize hAe : va_A (cw cI a g d F) s.heap.size = A at hD ⊢
  have hi2 : ∀ w ∈ wsX20, w ∈ wsX2_add := fun w h => List.mem_cons_of_mem _ (List.mem_append_right _ h)
  have hA : ∀ q : Nat, s.heap.size ≤ q → A q := fun q h => by rw [← hAe]; exact Or.inr h
  have hS : va_S A s.heap s.heap [] := va_S.rf
  have hP : va_P D vwCl (cw cI a g d F) s.heap := hP
  have hl := lv_entry ([.ref ((a 1)), .int p_ev]) (n := 2) (Nat.le_of_ble_eq_true rfl)
  rw [lg_entry_eq]
  generalize (lg_sl ([.ref ((a 1)), .int p_ev]) ++ List.replicate (2 - (lg_sl ([.ref ((a 1)), .int p_ev])).length) Slot.unset).toArray = ls at hl ⊢
  have hl : lv_has ls 2 [(0, .ref ((a 1))), (1, .int p_ev)] := hl
  refine lv_aload_n hx hb dX2_add_0 rfl (lv_at hl 0 rfl) ?_
  refine va_get (D := D) (ci := 2) (v := .ref ((a 8))) (C := RX2) (T := TX2) (N := 3) hx hb hts hi2 hown hK hP 1 rfl rfl 0 (by decide) (hts (.fieldLink RX2 9 "GuardedCalls$Events" "ring" "[I") (by decide +kernel)) (fun _ h9 => h9) rfl dX2_add_1 ?_
  refine lv_aload_n hx hb dX2_add_4 rfl (lv_at hl 0 rfl) ?_
  refine va_get (D := D) (ci := 2) (v := .int ((g 4))) (C := RX2) (T := TX2) (N := 3) hx hb hts hi2 hown hK hP 1 rfl rfl 1 (by decide) (hts (.fieldLink RX2 13 "GuardedCalls$Events" "next" "I") (by decide +kernel)) (fun _ h9 => h9) rfl dX2_add_5 ?_
  refine lv_iload_n hx hb dX2_add_8 rfl (lv_at hl 1 rfl) ?_
  refine va_iast (D := D) hx hb hK hP hD hS 8 0 (f := (F 1)) (n := 8) rfl rfl (h4) dX2_add_9 (fun H locs hP hD hS => ?_)
  have hP : va_P D vwCl (cw cI a g d (vf_upd F 1 (upd (F 1) ((g 4)).toNatClampNeg p_ev))) H := hP
  have hD : va_D A (cw cI a g d (vf_upd F 1 (upd (F 1) ((g 4)).toNatClampNeg p_ev))) := hD
  refine lv_aload_n hx hb dX2_add_10 rfl (lv_at hl 0 rfl) ?_
  refine lv_aload_n hx hb dX2_add_11 rfl (lv_at hl 0 rfl) ?_
  refine va_get (D := D) (ci := 2) (v := .int ((g 4))) (C := RX2) (T := TX2) (N := 3) hx hb hts hi2 hown hK hP 1 rfl rfl 1 (by decide) (hts (.fieldLink RX2 13 "GuardedCalls$Events" "next" "I") (by decide +kernel)) (fun _ h9 => h9) rfl dX2_add_12 ?_
  refine lv_iconst (v := 1) hx hb dX2_add_15 (by decide) ?_
  refine lv_iadd hx hb dX2_add_16 ?_
  refine lv_topi (fun x1 e1 => ?_)
  refine lv_bipush (v := 8) hx hb dX2_add_17 (by decide) ?_
  refine lv_irem hx hb dX2_add_19 (by decide) ?_
  refine lv_topi (fun x2 e2 => ?_)
  refine va_put (D := D) (ci := 2) (v := .int x2) (ty := .int) (C := RX2) (T := TX2) (N := 3) hx hb hts hi2 tyX2 tyX2_ok nmX2 hown hK hP hD hS 1 rfl rfl 1 (by decide) (hts (.fieldLink RX2 13 "GuardedCalls$Events" "next" "I") (by decide +kernel)) (fun _ h9 => h9) rfl (by decide +kernel) rfl rfl (Nat.le_of_ble_eq_true rfl) dX2_add_20 (fun H locs hP hD hS => ?_)
  have hP : va_P D vwCl (cw cI a (upd g 4 x2) d (vf_upd F 1 (upd (F 1) ((g 4)).toNatClampNeg p_ev))) H := hP
  have hD : va_D A (cw cI a (upd g 4 x2) d (vf_upd F 1 (upd (F 1) ((g 4)).toNatClampNeg p_ev))) := hD
  refine lv_aload_n hx hb dX2_add_23 rfl (lv_at hl 0 rfl) ?_
  refine va_get (D := D) (ci := 2) (v := .int ((g 5))) (C := RX2) (T := TX2) (N := 3) hx hb hts hi2 hown hK hP 1 rfl rfl 2 (by decide) (hts (.fieldLink RX2 17 "GuardedCalls$Events" "kept" "I") (by decide +kernel)) (fun _ h9 => h9) rfl dX2_add_24 ?_
  refine lv_bipush (v := 8) hx hb dX2_add_27 (by decide) ?_
  refine lv_icmp_ge (tgt := 42) hx hb dX2_add_29 (by decide) (fun c3 => ?_) (fun c3 => ?_)
  · exact W.vret hx hb hr (fun t ht hW => ⟨⟨(upd g 4 x2, d, vf_upd F 1 (upd (F 1) ((g 4)).toNatClampNeg p_ev)), rfl, ⟨fun k h1 h2 => by simp [upd, h1, h2], rfl, fun k h1 => by simp [vf_upd, h1], by show vp_in x2 8; rw [e2, e1]; exact ring8 h4⟩, by rw [ht]; exact hP, hD⟩, hS.F ht⟩) hS.2.2 dX2_add_42
  · refine lv_aload_n hx hb dX2_add_32 rfl (lv_at hl 0 rfl) ?_
    refine lv_dup hx hb dX2_add_33 rfl ?_
    refine va_get (D := D) (ci := 2) (v := .int ((g 5))) (C := RX2) (T := TX2) (N := 3) hx hb hts hi2 hown hK hP 1 rfl rfl 2 (by decide) (hts (.fieldLink RX2 17 "GuardedCalls$Events" "kept" "I") (by decide +kernel)) (fun _ h9 => h9) rfl dX2_add_34 ?_
    refine lv_iconst (v := 1) hx hb dX2_add_37 (by decide) ?_
    refine lv_iadd hx hb dX2_add_38 ?_
    refine lv_topi (fun x4 e4 => ?_)
    refine va_put (D := D) (ci := 2) (v := .int x4) (ty := .int) (C := RX2) (T := TX2) (N := 3) hx hb hts hi2 tyX2 tyX2_ok nmX2 hown hK hP hD hS 1 rfl rfl 2 (by decide) (hts (.fieldLink RX2 17 "GuardedCalls$Events" "kept" "I") (by decide +kernel)) (fun _ h9 => h9) rfl (by decide +kernel) rfl rfl (Nat.le_of_ble_eq_true rfl) dX2_add_39 (fun H locs hP hD hS => ?_)
    have hP : va_P D vwCl (cw cI a (upd (upd g 4 x2) 5 x4) d (vf_upd F 1 (upd (F 1) ((g 4)).toNatClampNeg p_ev))) H := hP
    have hD : va_D A (cw cI a (upd (upd g 4 x2) 5 x4) d (vf_upd F 1 (upd (F 1) ((g 4)).toNatClampNeg p_ev))) := hD
    exact W.vret hx hb hr (fun t ht hW => ⟨⟨(upd (upd g 4 x2) 5 x4, d, vf_upd F 1 (upd (F 1) ((g 4)).toNatClampNeg p_ev)), rfl, ⟨fun k h1 h2 => by simp [upd, h1, h2], rfl, fun k h1 => by simp [vf_upd, h1], by show vp_in x2 8; rw [e2, e1]; exact ring8 h4⟩, by rw [ht]; exact hP, hD⟩, hS.F ht⟩) hS.2.2 dX2_add_42
set_option maxHeartbeats 4000000 in
set_option maxRecDepth 100000 in
theorem c_X0_emptyWindow (l : Launch) (D : va_G) (cI : ClassId) (a : Nat → Nat) (sz : Nat) (g : Nat → Int32) (d : Nat → UInt64) (F : Nat → Nat → Int32) : Met l yX0_emptyWindow wsX0_emptyWindow ({ frames := 0, cells := 0, slots := 0, locals := 0 }) (gP (KC D cI) D (cw cI a g d F) sz [.ref (a 4)]) (va_Qv (fun (u : SS) => u = (upd (upd (upd g 19 0) 20 0) 21 0, d, F)) (gB D (wfC cI a) (va_A (cw cI a g d F) sz)) (va_A (cw cI a g d F) sz)) 0 0 (va_A (cw cI a g d F) sz) := by
  refine Met.ofW (cc := cX0_emptyWindow) (maxL := 1) (ret := none) (by decide) rfl ?_
  intro p e s m args below meth c s₁ B hml hv
  obtain ⟨rfl, hsz, hP, hD0, hKK⟩ := hv
  have hx := B.exec
  have hb := B.bytes
  have hr := B.returns
  have hts := atoms_spec (ws := wsX0_emptyWindow) B.pre
  have hown : s.vm.findClass RX0 = some m.cls := findClass_of_methodNamed B.named
  have hlocks := B.notSynchronized
  subst hsz
  have hK := hKK.1
  have hok := KC_ok D cI
  have hD := hD0.self (sz := s.heap.size)
  generalize hAe : va_A (cw cI a g d F) s.heap.size = A at hD ⊢
  have hi0 : ∀ w ∈ wsX00, w ∈ wsX0_emptyWindow := fun w h => List.mem_cons_of_mem _ (List.mem_append_right _ h)
  have hA : ∀ q : Nat, s.heap.size ≤ q → A q := fun q h => by rw [← hAe]; exact Or.inr h
  have hS : va_S A s.heap s.heap [] := va_S.rf
  have hP : va_P D vwCl (cw cI a g d F) s.heap := hP
  have hl := lv_entry ([.ref ((a 4))]) (n := 1) (Nat.le_of_ble_eq_true rfl)
  rw [lg_entry_eq]
  generalize (lg_sl ([.ref ((a 4))]) ++ List.replicate (1 - (lg_sl ([.ref ((a 4))])).length) Slot.unset).toArray = ls at hl ⊢
  have hl : lv_has ls 1 [(0, .ref ((a 4)))] := hl
  refine lv_aload_n hx hb dX0_emptyWindow_0 rfl (lv_at hl 0 rfl) ?_
  refine lv_iconst (v := 0) hx hb dX0_emptyWindow_1 (by decide) ?_
  refine va_put (D := D) (ci := 0) (v := .int 0) (ty := .int) (C := RX0) (T := TX0) (N := 15) hx hb hts hi0 tyX0 tyX0_ok nmX0 hown hK hP hD hS 4 rfl rfl 12 (by decide) (hts (.fieldLink RX0 55 "GuardedCalls$Breaker" "calls" "I") (by decide +kernel)) (fun _ h9 => h9) rfl (by decide +kernel) rfl rfl (Nat.le_of_ble_eq_true rfl) dX0_emptyWindow_2 (fun H locs hP hD hS => ?_)
  have hP : va_P D vwCl (cw cI a (upd g 19 0) d F) H := hP
  have hD : va_D A (cw cI a (upd g 19 0) d F) := hD
  refine lv_aload_n hx hb dX0_emptyWindow_5 rfl (lv_at hl 0 rfl) ?_
  refine lv_iconst (v := 0) hx hb dX0_emptyWindow_6 (by decide) ?_
  refine va_put (D := D) (ci := 0) (v := .int 0) (ty := .int) (C := RX0) (T := TX0) (N := 15) hx hb hts hi0 tyX0 tyX0_ok nmX0 hown hK hP hD hS 4 rfl rfl 13 (by decide) (hts (.fieldLink RX0 58 "GuardedCalls$Breaker" "failedCalls" "I") (by decide +kernel)) (fun _ h9 => h9) rfl (by decide +kernel) rfl rfl (Nat.le_of_ble_eq_true rfl) dX0_emptyWindow_7 (fun H locs hP hD hS => ?_)
  have hP : va_P D vwCl (cw cI a (upd (upd g 19 0) 20 0) d F) H := hP
  have hD : va_D A (cw cI a (upd (upd g 19 0) 20 0) d F) := hD
  refine lv_aload_n hx hb dX0_emptyWindow_10 rfl (lv_at hl 0 rfl) ?_
  refine lv_iconst (v := 0) hx hb dX0_emptyWindow_11 (by decide) ?_
  refine va_put (D := D) (ci := 0) (v := .int 0) (ty := .int) (C := RX0) (T := TX0) (N := 15) hx hb hts hi0 tyX0 tyX0_ok nmX0 hown hK hP hD hS 4 rfl rfl 14 (by decide) (hts (.fieldLink RX0 61 "GuardedCalls$Breaker" "slowCalls" "I") (by decide +kernel)) (fun _ h9 => h9) rfl (by decide +kernel) rfl rfl (Nat.le_of_ble_eq_true rfl) dX0_emptyWindow_12 (fun H locs hP hD hS => ?_)
  have hP : va_P D vwCl (cw cI a (upd (upd (upd g 19 0) 20 0) 21 0) d F) H := hP
  have hD : va_D A (cw cI a (upd (upd (upd g 19 0) 20 0) 21 0) d F) := hD
  exact W.vret hx hb hr (fun t ht hW => ⟨⟨(upd (upd (upd g 19 0) 20 0) 21 0, d, F), rfl, rfl, by rw [ht]; exact hP, hD⟩, hS.F ht⟩) hS.2.2 dX0_emptyWindow_15
set_option maxHeartbeats 4000000 in
set_option maxRecDepth 100000 in
theorem c_X3_cycleNow (l : Launch) (D : va_G) (cI : ClassId) (a : Nat → Nat) (sz : Nat) (g : Nat → Int32) (d : Nat → UInt64) (F : Nat → Nat → Int32) : Met l yX3_cycleNow wsX3_cycleNow ({ frames := 0, cells := 0, slots := 0, locals := 0 }) (gP (KC D cI) D (cw cI a g d F) sz [.ref (a 5)]) (va_Qi (fun (r : Int32) (u : SS) => u = (g, d, F)) (gB D (wfC cI a) (va_A (cw cI a g d F) sz)) (va_A (cw cI a g d F) sz)) 0 0 (va_A (cw cI a g d F) sz) := by
  refine Met.ofW (cc := cX3_cycleNow) (maxL := 1) (ret := (some .int)) (by decide) rfl ?_
  intro p e s m args below meth c s₁ B hml hv
  obtain ⟨rfl, hsz, hP, hD0, hKK⟩ := hv
  have hx := B.exec
  have hb := B.bytes
  have hr := B.returns
  have hts := atoms_spec (ws := wsX3_cycleNow) B.pre
  have hown : s.vm.findClass RX3 = some m.cls := findClass_of_methodNamed B.named
  have hlocks := B.notSynchronized
  subst hsz
  have hK := hKK.1
  have hok := KC_ok D cI
  have hD := hD0.self (sz := s.heap.size)
  generalize hAe : va_A (cw cI a g d F) s.heap.size = A at hD ⊢
  have hi3 : ∀ w ∈ wsX30, w ∈ wsX3_cycleNow := fun w h => List.mem_cons_of_mem _ (List.mem_append_left _ (List.mem_append_right _ h))
  have hi1 : ∀ w ∈ wsX10, w ∈ wsX3_cycleNow := fun w h => List.mem_cons_of_mem _ (List.mem_append_right _ h)
  have hA : ∀ q : Nat, s.heap.size ≤ q → A q := fun q h => by rw [← hAe]; exact Or.inr h
  have hS : va_S A s.heap s.heap [] := va_S.rf
  have hP : va_P D vwCl (cw cI a g d F) s.heap := hP
  have hl := lv_entry ([.ref ((a 5))]) (n := 1) (Nat.le_of_ble_eq_true rfl)
  rw [lg_entry_eq]
  generalize (lg_sl ([.ref ((a 5))]) ++ List.replicate (1 - (lg_sl ([.ref ((a 5))])).length) Slot.unset).toArray = ls at hl ⊢
  have hl : lv_has ls 1 [(0, .ref ((a 5)))] := hl
  refine lv_aload_n hx hb dX3_cycleNow_0 rfl (lv_at hl 0 rfl) ?_
  refine va_get (D := D) (ci := 3) (v := .int ((g 22))) (C := RX3) (T := TX3) (N := 7) hx hb hts hi3 hown hK hP 5 rfl rfl 2 (by decide) (hts (.fieldLink RX3 19 "GuardedCalls$Limiter" "period" "I") (by decide +kernel)) (fun _ h9 => h9) rfl dX3_cycleNow_1 ?_
  refine lv_iconst (v := 1) hx hb dX3_cycleNow_4 (by decide) ?_
  refine lv_icmp_ge (tgt := 12) hx hb dX3_cycleNow_5 (by decide) (fun c1 => ?_) (fun c1 => ?_)
  · refine lv_aload_n hx hb dX3_cycleNow_12 rfl (lv_at hl 0 rfl) ?_
    refine va_get (D := D) (ci := 3) (v := .ref ((a 2))) (C := RX3) (T := TX3) (N := 7) hx hb hts hi3 hown hK hP 5 rfl rfl 0 (by decide) (hts (.fieldLink RX3 9 "GuardedCalls$Limiter" "clock" "LGuardedCalls$Clock;") (by decide +kernel)) (fun _ h9 => h9) rfl dX3_cycleNow_13 ?_
    refine va_getN (D := D) (ci := 1) (v := .int ((g 6))) (C := RX1) (T := TX1) (N := 2) hx hb hts hi1 hown hK hP 2 rfl rfl 1 (by decide) (nw_use hKK.2 (w := .fieldLinkNest "GuardedCalls$Limiter" 42 "GuardedCalls$Clock" "now" "I" "GuardedCalls") (by decide +kernel)) (fun _ h9 => h9) rfl dX3_cycleNow_16 ?_
    refine lv_aload_n hx hb dX3_cycleNow_19 rfl (lv_at hl 0 rfl) ?_
    refine va_get (D := D) (ci := 3) (v := .int ((g 22))) (C := RX3) (T := TX3) (N := 7) hx hb hts hi3 hown hK hP 5 rfl rfl 2 (by decide) (hts (.fieldLink RX3 19 "GuardedCalls$Limiter" "period" "I") (by decide +kernel)) (fun _ h9 => h9) rfl dX3_cycleNow_20 ?_
    refine lv_idiv hx hb dX3_cycleNow_23 (fun h => by rw [h] at c1; exact absurd c1 (by decide)) ?_
    refine lv_topi (fun x2 e2 => ?_)
    exact W.iret (v := x2) hx hb hr (fun t ht hW => ⟨⟨_, (g, d, F), rfl, rfl, by rw [ht]; exact hP, hD⟩, hS.F ht⟩) hS.2.2 dX3_cycleNow_24
  · refine lv_iconst (v := 0) hx hb dX3_cycleNow_8 (by decide) ?_
    refine lv_goto (tgt := 24) hx hb dX3_cycleNow_9 (by decide) ?_
    exact W.iret (v := 0) hx hb hr (fun t ht hW => ⟨⟨_, (g, d, F), rfl, rfl, by rw [ht]; exact hP, hD⟩, hS.F ht⟩) hS.2.2 dX3_cycleNow_24
set_option maxHeartbeats 4000000 in
set_option maxRecDepth 100000 in
theorem c_X3_beginCycle (l : Launch) (D : va_G) (cI : ClassId) (a : Nat → Nat) (sz : Nat) (g : Nat → Int32) (d : Nat → UInt64) (F : Nat → Nat → Int32) : Met l yX3_beginCycle wsX3_beginCycle ({ frames := 1, cells := 0, slots := 0, locals := 20 }) (gP (KC D cI) D (cw cI a g d F) sz [.ref (a 5)]) (va_Qv (fun (u : SS) => (∀ k, k ≠ 25 → k ≠ 26 → u.1 k = g k) ∧ u.2.1 = d ∧ u.2.2 = F) (gB D (wfC cI a) (va_A (cw cI a g d F) sz)) (va_A (cw cI a g d F) sz)) 0 0 (va_A (cw cI a g d F) sz) := by
  refine Met.ofW (cc := cX3_beginCycle) (maxL := 1) (ret := none) (by decide) rfl ?_
  intro p e s m args below meth c s₁ B hml hv
  obtain ⟨rfl, hsz, hP, hD0, hKK⟩ := hv
  have hx := B.exec
  have hb := B.bytes
  have hr := B.returns
  have hts := atoms_spec (ws := wsX3_beginCycle) B.pre
  have hown : s.vm.findClass RX3 = some m.cls := findClass_of_methodNamed B.named
  have hlocks := B.notSynchronized
  subst hsz
  have hK := hKK.1
  have hok := KC_ok D cI
  have hD := hD0.self (sz := s.heap.size)
  generalize hAe : va_A (cw cI a g d F) s.heap.size = A at hD ⊢
  have hi3 : ∀ w ∈ wsX30, w ∈ wsX3_beginCycle := fun w h => List.mem_cons_of_mem _ (List.mem_append_left _ (List.mem_append_right _ h))
  have hi1 : ∀ w ∈ wsX10, w ∈ wsX3_beginCycle := fun w h => List.mem_cons_of_mem _ (List.mem_append_right _ h)
  have hA : ∀ q : Nat, s.heap.size ≤ q → A q := fun q h => by rw [← hAe]; exact Or.inr h
  have hS : va_S A s.heap s.heap [] := va_S.rf
  have hP : va_P D vwCl (cw cI a g d F) s.heap := hP
  have hl := lv_entry ([.ref ((a 5))]) (n := 1) (Nat.le_of_ble_eq_true rfl)
  rw [lg_entry_eq]
  generalize (lg_sl ([.ref ((a 5))]) ++ List.replicate (1 - (lg_sl ([.ref ((a 5))])).length) Slot.unset).toArray = ls at hl ⊢
  have hl : lv_has ls 1 [(0, .ref ((a 5)))] := hl
  refine lv_aload_n hx hb dX3_beginCycle_0 rfl (lv_at hl 0 rfl) ?_
  refine lv_aload_n hx hb dX3_beginCycle_1 rfl (lv_at hl 0 rfl) ?_
  refine gc_vi (As := []) (rest := [.ref ((a 5))]) (w0 := cw cI a g d F) (wc := cw cI a g d F) (wr := []) (wf := wfC cI a) ⟨hx, hb, hml, hown, hts⟩ hKK hok hP hD hS hA [0, 1, 2, 3, 4, 5, 6, 7, 8, 9, 10, 11] [] rfl rfl (by decide) (c_X3_cycleNow l D cI a _ g d F) (cwV 0 hts gX3_beginCycle_X3_cycleNow rfl rfl rfl (by decide +kernel) ⟨Nat.le_of_ble_eq_true rfl, Nat.le_of_ble_eq_true rfl⟩) (va_recv hK hP (ci := 3) (q0 := 5) rfl rfl) rfl hl.1 rfl (Nat.le_of_ble_eq_true rfl) dX3_beginCycle_2 ⟨Nat.le_of_ble_eq_true rfl, Nat.le_of_ble_eq_true rfl⟩ (fun r1 u1 H locs hw1 hP hD hS => ?_)
  subst hw1
  have hP : va_P D vwCl (cw cI a g d F) H := hP
  have hD : va_D A (cw cI a g d F) := hD
  refine va_put (D := D) (ci := 3) (v := .int r1) (ty := .int) (C := RX3) (T := TX3) (N := 7) hx hb hts hi3 tyX3 tyX3_ok nmX3 hown hK hP hD hS 5 rfl rfl 5 (by decide) (hts (.fieldLink RX3 29 "GuardedCalls$Limiter" "cycle" "I") (by decide +kernel)) (fun _ h9 => h9) rfl (by decide +kernel) rfl rfl (Nat.le_of_ble_eq_true rfl) dX3_beginCycle_5 (fun H locs hP hD hS => ?_)
  have hP : va_P D vwCl (cw cI a (upd g 25 r1) d F) H := hP
  have hD : va_D A (cw cI a (upd g 25 r1) d F) := hD
  refine lv_aload_n hx hb dX3_beginCycle_8 rfl (lv_at hl 0 rfl) ?_
  refine lv_aload_n hx hb dX3_beginCycle_9 rfl (lv_at hl 0 rfl) ?_
  refine va_get (D := D) (ci := 3) (v := .int ((g 23))) (C := RX3) (T := TX3) (N := 7) hx hb hts hi3 hown hK hP 5 rfl rfl 3 (by decide) (hts (.fieldLink RX3 23 "GuardedCalls$Limiter" "limit" "I") (by decide +kernel)) (fun _ h9 => h9) rfl dX3_beginCycle_10 ?_
  refine va_put (D := D) (ci := 3) (v := .int ((g 23))) (ty := .int) (C := RX3) (T := TX3) (N := 7) hx hb hts hi3 tyX3 tyX3_ok nmX3 hown hK hP hD hS 5 rfl rfl 6 (by decide) (hts (.fieldLink RX3 32 "GuardedCalls$Limiter" "left" "I") (by decide +kernel)) (fun _ h9 => h9) rfl (by decide +kernel) rfl rfl (Nat.le_of_ble_eq_true rfl) dX3_beginCycle_13 (fun H locs hP hD hS => ?_)
  have hP : va_P D vwCl (cw cI a (upd (upd g 25 r1) 26 ((g 23))) d F) H := hP
  have hD : va_D A (cw cI a (upd (upd g 25 r1) 26 ((g 23))) d F) := hD
  exact W.vret hx hb hr (fun t ht hW => ⟨⟨(upd (upd g 25 r1) 26 ((g 23)), d, F), rfl, ⟨fun k h1 h2 => by simp [upd, h1, h2], rfl, rfl⟩, by rw [ht]; exact hP, hD⟩, hS.F ht⟩) hS.2.2 dX3_beginCycle_16
set_option maxHeartbeats 4000000 in
set_option maxRecDepth 100000 in
theorem c_X5_succeed (l : Launch) (D : va_G) (cI : ClassId) (a : Nat → Nat) (sz : Nat) (g : Nat → Int32) (d : Nat → UInt64) (F : Nat → Nat → Int32) (p_v : Int32) (h4 : vp_in (g 4) 8) : Met l yX5_succeed wsX5_succeed ({ frames := 1, cells := 0, slots := 0, locals := 21 }) (gP (KC D cI) D (cw cI a g d F) sz [.ref (a 3), .int p_v]) (va_Qi (fun (r : Int32) (u : SS) => r = 0 ∧ u.1 10 = p_v) (gB D (wfC cI a) (va_A (cw cI a g d F) sz)) (va_A (cw cI a g d F) sz)) 0 0 (va_A (cw cI a g d F) sz) := by
  refine Met.ofW (cc := cX5_succeed) (maxL := 2) (ret := (some .int)) (by decide) rfl ?_
  intro p e s m args below meth c s₁ B hml hv
  obtain ⟨rfl, hsz, hP, hD0, hKK⟩ := hv
  have hx := B.exec
  have hb := B.bytes
  have hr := B.returns
  have hts := atoms_spec (ws := wsX5_succeed) B.pre
  have hown : s.vm.findClass RX5 = some m.cls := findClass_of_methodNamed B.named
  have hlocks := B.notSynchronized
  subst hsz
  have hK := hKK.1
  have hok := KC_ok D cI
  have hD := hD0.self (sz := s.heap.size)
  generalize hAe : va_A (cw cI a g d F) s.heap.size = A at hD ⊢
  have hi5 : ∀ w ∈ wsX50, w ∈ wsX5_succeed := fun w h => List.mem_cons_of_mem _ (List.mem_append_left _ (List.mem_append_right _ h))
  have hi2 : ∀ w ∈ wsX20, w ∈ wsX5_succeed := fun w h => List.mem_cons_of_mem _ (List.mem_append_right _ h)
  have hA : ∀ q : Nat, s.heap.size ≤ q → A q := fun q h => by rw [← hAe]; exact Or.inr h
  have hS : va_S A s.heap s.heap [] := va_S.rf
  have hP : va_P D vwCl (cw cI a g d F) s.heap := hP
  have hl := lv_entry ([.ref ((a 3)), .int p_v]) (n := 2) (Nat.le_of_ble_eq_true rfl)
  rw [lg_entry_eq]
  generalize (lg_sl ([.ref ((a 3)), .int p_v]) ++ List.replicate (2 - (lg_sl ([.ref ((a 3)), .int p_v])).length) Slot.unset).toArray = ls at hl ⊢
  have hl : lv_has ls 2 [(0, .ref ((a 3))), (1, .int p_v)] := hl
  refine lv_aload_n hx hb dX5_succeed_0 rfl (lv_at hl 0 rfl) ?_
  refine lv_iload_n hx hb dX5_succeed_1 rfl (lv_at hl 1 rfl) ?_
  refine va_put (D := D) (ci := 5) (v := .int p_v) (ty := .int) (C := RX5) (T := TX5) (N := 9) hx hb hts hi5 tyX5 tyX5_ok nmX5 hown hK hP hD hS 3 rfl rfl 8 (by decide) (hts (.fieldLink RX5 39 "GuardedCalls$Supplier" "answer" "I") (by decide +kernel)) (fun _ h9 => h9) rfl (by decide +kernel) rfl rfl (Nat.le_of_ble_eq_true rfl) dX5_succeed_2 (fun H locs hP hD hS => ?_)
  have hP : va_P D vwCl (cw cI a (upd g 10 p_v) d F) H := hP
  have hD : va_D A (cw cI a (upd g 10 p_v) d F) := hD
  refine lv_aload_n hx hb dX5_succeed_5 rfl (lv_at hl 0 rfl) ?_
  refine va_get (D := D) (ci := 5) (v := .ref ((a 1))) (C := RX5) (T := TX5) (N := 9) hx hb hts hi5 hown hK hP 3 rfl rfl 1 (by decide) (hts (.fieldLink RX5 15 "GuardedCalls$Supplier" "events" "LGuardedCalls$Events;") (by decide +kernel)) (fun _ h9 => h9) rfl dX5_succeed_6 ?_
  refine lv_bipush (v := 51) hx hb dX5_succeed_9 (by decide) ?_
  refine gc_vv (As := [.int 51]) (rest := []) (w0 := cw cI a (upd g 10 p_v) d F) (wc := cw cI a (upd g 10 p_v) d F) (wr := []) (wf := wfC cI a) ⟨hx, hb, hml, hown, hts⟩ hKK hok hP hD hS hA [0, 1, 2, 3, 4, 5, 6, 7, 8, 9, 10, 11] [] rfl rfl (by decide) (c_X2_add l D cI a _ (upd g 10 p_v) d F 51 h4) (cwV 1 hts gX5_succeed_X2_add rfl rfl rfl (by decide +kernel) ⟨Nat.le_of_ble_eq_true rfl, Nat.le_of_ble_eq_true rfl⟩) (va_recv hK hP (ci := 2) (q0 := 1) rfl rfl) rfl hl.1 rfl (Nat.le_of_ble_eq_true rfl) dX5_succeed_11 ⟨Nat.le_of_ble_eq_true rfl, Nat.le_of_ble_eq_true rfl⟩ (fun u1 H locs hw1 hP hD hS => ?_)
  obtain ⟨g1, d1, F1⟩ := u1
  have hP : va_P D vwCl (cw cI a g1 d1 F1) H := hP
  have hD : va_D A (cw cI a g1 d1 F1) := hD
  refine lv_iconst (v := 0) hx hb dX5_succeed_14 (by decide) ?_
  exact W.iret (v := 0) hx hb hr (fun t ht hW => ⟨⟨_, (g1, d1, F1), rfl, ⟨rfl, hw1.1 10 (by decide) (by decide)⟩, by rw [ht]; exact hP, hD⟩, hS.F ht⟩) hS.2.2 dX5_succeed_15
set_option maxHeartbeats 4000000 in
set_option maxRecDepth 100000 in
theorem c_X7_note (l : Launch) (D : va_G) (cI : ClassId) (a : Nat → Nat) (sz : Nat) (g : Nat → Int32) (d : Nat → UInt64) (F : Nat → Nat → Int32) (p_ev : Int32) : Met l yX7_note wsX7_note ({ frames := 0, cells := 0, slots := 0, locals := 0 }) (gP (KM D cI) D (mw cI a g d F) sz [.ref (a 0), .int p_ev]) (va_Qv (fun (u : SS) => NRel g d F u) (gB D (wfM cI a) (va_A (mw cI a g d F) sz)) (va_A (mw cI a g d F) sz)) 0 0 (va_A (mw cI a g d F) sz) := by
  refine Met.ofW (cc := cX7_note) (maxL := 3) (ret := none) (by decide) rfl ?_
  intro p e s m args below meth c s₁ B hml hv
  obtain ⟨rfl, hsz, hP, hD0, hKK⟩ := hv
  have hx := B.exec
  have hb := B.bytes
  have hr := B.returns
  have hts := atoms_spec (ws := wsX7_note) B.pre
  have hown : s.vm.findClass RX7 = some m.cls := findClass_of_methodNamed B.named
  have hlocks := B.notSynchronized
  subst hsz
  have hK := hKK.1
  have hok := KM_ok D cI
  have hD := hD0.self (sz := s.heap.size)
  generalize hAe : va_A (mw cI a g d F) s.heap.size = A at hD ⊢
  have hi7 : ∀ w ∈ wsX70, w ∈ wsX7_note := fun w h => List.mem_cons_of_mem _ (List.mem_append_right _ h)
  have hA : ∀ q : Nat, s.heap.size ≤ q → A q := fun q h => by rw [← hAe]; exact Or.inr h
  have hS : va_S A s.heap s.heap [] := va_S.rf
  have hP : va_P D vwCl (mw cI a g d F) s.heap := hP
  have hl := lv_entry ([.ref ((a 0)), .int p_ev]) (n := 3) (Nat.le_of_ble_eq_true rfl)
  rw [lg_entry_eq]
  generalize (lg_sl ([.ref ((a 0)), .int p_ev]) ++ List.replicate (3 - (lg_sl ([.ref ((a 0)), .int p_ev])).length) Slot.unset).toArray = ls at hl ⊢
  have hl : lv_has ls 3 [(0, .ref ((a 0))), (1, .int p_ev)] := hl
  refine lv_bipush (v := 7) hx hb dX7_note_0 (by decide) ?_
  refine lv_istore_n (lv' := [(2, .int 7), (0, .ref ((a 0))), (1, .int p_ev)]) hx hb dX7_note_2 rfl hl (by decide) rfl (fun ls hl => ?_)
  refine lv_iload_n hx hb dX7_note_3 rfl (lv_at hl 0 rfl) ?_
  refine lv_if_le (tgt := 27) hx hb dX7_note_4 (by decide) (fun c1 => ?_) (fun c1 => ?_)
  · exact absurd c1 (by decide)
  · refine lv_aload_n hx hb dX7_note_7 rfl (lv_at hl 1 rfl) ?_
    refine va_get (D := D) (ci := 7) (v := .ref ((a 6))) (C := RX7) (T := TX7) (N := 41) hx hb hts hi7 hown hK hP 0 rfl rfl 40 (by decide) (hts (.fieldLink RX7 89 "GuardedCallsModel" "events" "[I") (by decide +kernel)) (fun _ h9 => h9) rfl dX7_note_8 ?_
    refine lv_iload_n hx hb dX7_note_11 rfl (lv_at hl 0 rfl) ?_
    refine lv_aload_n hx hb dX7_note_12 rfl (lv_at hl 1 rfl) ?_
    refine va_get (D := D) (ci := 7) (v := .ref ((a 6))) (C := RX7) (T := TX7) (N := 41) hx hb hts hi7 hown hK hP 0 rfl rfl 40 (by decide) (hts (.fieldLink RX7 89 "GuardedCallsModel" "events" "[I") (by decide +kernel)) (fun _ h9 => h9) rfl dX7_note_13 ?_
    refine lv_iload_n hx hb dX7_note_16 rfl (lv_at hl 0 rfl) ?_
    refine lv_iconst (v := 1) hx hb dX7_note_17 (by decide) ?_
    refine lv_isub hx hb dX7_note_18 ?_
    refine lv_topi (fun x2 e2 => ?_)
    obtain rfl : x2 = 6 := e2.trans (by decide)
    refine va_iald (D := D) hx hb hK hP 6 0 (f := (F 5)) (n := 8) rfl rfl (by unfold vp_in; decide) dX7_note_19 ?_
    refine lv_topi (fun x3 e3 => ?_)
    refine va_iast (D := D) hx hb hK hP hD hS 6 0 (f := (F 5)) (n := 8) rfl rfl (by unfold vp_in; decide) dX7_note_20 (fun H locs hP hD hS => ?_)
    have hP : va_P D vwCl (mw cI a g d (vf_upd F 5 (upd (F 5) (7 : Int32).toNatClampNeg x3))) H := hP
    have hD : va_D A (mw cI a g d (vf_upd F 5 (upd (F 5) (7 : Int32).toNatClampNeg x3))) := hD
    refine lv_iinc (v := 6) (lv' := [(2, .int 6), (0, .ref ((a 0))), (1, .int p_ev)]) hx hb dX7_note_21 hl (k := 0) rfl (by decide) (by decide) rfl (fun ls hl => ?_)
    refine lv_goto (tgt := 3) hx hb dX7_note_24 (by decide) ?_
    refine lv_iload_n hx hb dX7_note_3 rfl (lv_at hl 0 rfl) ?_
    refine lv_if_le (tgt := 27) hx hb dX7_note_4 (by decide) (fun c4 => ?_) (fun c4 => ?_)
    · exact absurd c4 (by decide)
    · refine lv_aload_n hx hb dX7_note_7 rfl (lv_at hl 1 rfl) ?_
      refine va_get (D := D) (ci := 7) (v := .ref ((a 6))) (C := RX7) (T := TX7) (N := 41) hx hb hts hi7 hown hK hP 0 rfl rfl 40 (by decide) (hts (.fieldLink RX7 89 "GuardedCallsModel" "events" "[I") (by decide +kernel)) (fun _ h9 => h9) rfl dX7_note_8 ?_
      refine lv_iload_n hx hb dX7_note_11 rfl (lv_at hl 0 rfl) ?_
      refine lv_aload_n hx hb dX7_note_12 rfl (lv_at hl 1 rfl) ?_
      refine va_get (D := D) (ci := 7) (v := .ref ((a 6))) (C := RX7) (T := TX7) (N := 41) hx hb hts hi7 hown hK hP 0 rfl rfl 40 (by decide) (hts (.fieldLink RX7 89 "GuardedCallsModel" "events" "[I") (by decide +kernel)) (fun _ h9 => h9) rfl dX7_note_13 ?_
      refine lv_iload_n hx hb dX7_note_16 rfl (lv_at hl 0 rfl) ?_
      refine lv_iconst (v := 1) hx hb dX7_note_17 (by decide) ?_
      refine lv_isub hx hb dX7_note_18 ?_
      refine lv_topi (fun x5 e5 => ?_)
      obtain rfl : x5 = 5 := e5.trans (by decide)
      refine va_iald (D := D) hx hb hK hP 6 0 (f := (upd (F 5) (7 : Int32).toNatClampNeg x3)) (n := 8) rfl rfl (by unfold vp_in; decide) dX7_note_19 ?_
      refine lv_topi (fun x6 e6 => ?_)
      refine va_iast (D := D) hx hb hK hP hD hS 6 0 (f := (upd (F 5) (7 : Int32).toNatClampNeg x3)) (n := 8) rfl rfl (by unfold vp_in; decide) dX7_note_20 (fun H locs hP hD hS => ?_)
      have hP : va_P D vwCl (mw cI a g d (vf_upd (vf_upd F 5 (upd (F 5) (7 : Int32).toNatClampNeg x3)) 5 (upd (upd (F 5) (7 : Int32).toNatClampNeg x3) (6 : Int32).toNatClampNeg x6))) H := hP
      have hD : va_D A (mw cI a g d (vf_upd (vf_upd F 5 (upd (F 5) (7 : Int32).toNatClampNeg x3)) 5 (upd (upd (F 5) (7 : Int32).toNatClampNeg x3) (6 : Int32).toNatClampNeg x6))) := hD
      refine lv_iinc (v := 5) (lv' := [(2, .int 5), (0, .ref ((a 0))), (1, .int p_ev)]) hx hb dX7_note_21 hl (k := 0) rfl (by decide) (by decide) rfl (fun ls hl => ?_)
      refine lv_goto (tgt := 3) hx hb dX7_note_24 (by decide) ?_
      refine lv_iload_n hx hb dX7_note_3 rfl (lv_at hl 0 rfl) ?_
      refine lv_if_le (tgt := 27) hx hb dX7_note_4 (by decide) (fun c7 => ?_) (fun c7 => ?_)
      · exact absurd c7 (by decide)
      · refine lv_aload_n hx hb dX7_note_7 rfl (lv_at hl 1 rfl) ?_
        refine va_get (D := D) (ci := 7) (v := .ref ((a 6))) (C := RX7) (T := TX7) (N := 41) hx hb hts hi7 hown hK hP 0 rfl rfl 40 (by decide) (hts (.fieldLink RX7 89 "GuardedCallsModel" "events" "[I") (by decide +kernel)) (fun _ h9 => h9) rfl dX7_note_8 ?_
        refine lv_iload_n hx hb dX7_note_11 rfl (lv_at hl 0 rfl) ?_
        refine lv_aload_n hx hb dX7_note_12 rfl (lv_at hl 1 rfl) ?_
        refine va_get (D := D) (ci := 7) (v := .ref ((a 6))) (C := RX7) (T := TX7) (N := 41) hx hb hts hi7 hown hK hP 0 rfl rfl 40 (by decide) (hts (.fieldLink RX7 89 "GuardedCallsModel" "events" "[I") (by decide +kernel)) (fun _ h9 => h9) rfl dX7_note_13 ?_
        refine lv_iload_n hx hb dX7_note_16 rfl (lv_at hl 0 rfl) ?_
        refine lv_iconst (v := 1) hx hb dX7_note_17 (by decide) ?_
        refine lv_isub hx hb dX7_note_18 ?_
        refine lv_topi (fun x8 e8 => ?_)
        obtain rfl : x8 = 4 := e8.trans (by decide)
        refine va_iald (D := D) hx hb hK hP 6 0 (f := (upd (upd (F 5) (7 : Int32).toNatClampNeg x3) (6 : Int32).toNatClampNeg x6)) (n := 8) rfl rfl (by unfold vp_in; decide) dX7_note_19 ?_
        refine lv_topi (fun x9 e9 => ?_)
        refine va_iast (D := D) hx hb hK hP hD hS 6 0 (f := (upd (upd (F 5) (7 : Int32).toNatClampNeg x3) (6 : Int32).toNatClampNeg x6)) (n := 8) rfl rfl (by unfold vp_in; decide) dX7_note_20 (fun H locs hP hD hS => ?_)
        have hP : va_P D vwCl (mw cI a g d (vf_upd (vf_upd (vf_upd F 5 (upd (F 5) (7 : Int32).toNatClampNeg x3)) 5 (upd (upd (F 5) (7 : Int32).toNatClampNeg x3) (6 : Int32).toNatClampNeg x6)) 5 (upd (upd (upd (F 5) (7 : Int32).toNatClampNeg x3) (6 : Int32).toNatClampNeg x6) (5 : Int32).toNatClampNeg x9))) H := hP
        have hD : va_D A (mw cI a g d (vf_upd (vf_upd (vf_upd F 5 (upd (F 5) (7 : Int32).toNatClampNeg x3)) 5 (upd (upd (F 5) (7 : Int32).toNatClampNeg x3) (6 : Int32).toNatClampNeg x6)) 5 (upd (upd (upd (F 5) (7 : Int32).toNatClampNeg x3) (6 : Int32).toNatClampNeg x6) (5 : Int32).toNatClampNeg x9))) := hD
        refine lv_iinc (v := 4) (lv' := [(2, .int 4), (0, .ref ((a 0))), (1, .int p_ev)]) hx hb dX7_note_21 hl (k := 0) rfl (by decide) (by decide) rfl (fun ls hl => ?_)
        refine lv_goto (tgt := 3) hx hb dX7_note_24 (by decide) ?_
        refine lv_iload_n hx hb dX7_note_3 rfl (lv_at hl 0 rfl) ?_
        refine lv_if_le (tgt := 27) hx hb dX7_note_4 (by decide) (fun c10 => ?_) (fun c10 => ?_)
        · exact absurd c10 (by decide)
        · refine lv_aload_n hx hb dX7_note_7 rfl (lv_at hl 1 rfl) ?_
          refine va_get (D := D) (ci := 7) (v := .ref ((a 6))) (C := RX7) (T := TX7) (N := 41) hx hb hts hi7 hown hK hP 0 rfl rfl 40 (by decide) (hts (.fieldLink RX7 89 "GuardedCallsModel" "events" "[I") (by decide +kernel)) (fun _ h9 => h9) rfl dX7_note_8 ?_
          refine lv_iload_n hx hb dX7_note_11 rfl (lv_at hl 0 rfl) ?_
          refine lv_aload_n hx hb dX7_note_12 rfl (lv_at hl 1 rfl) ?_
          refine va_get (D := D) (ci := 7) (v := .ref ((a 6))) (C := RX7) (T := TX7) (N := 41) hx hb hts hi7 hown hK hP 0 rfl rfl 40 (by decide) (hts (.fieldLink RX7 89 "GuardedCallsModel" "events" "[I") (by decide +kernel)) (fun _ h9 => h9) rfl dX7_note_13 ?_
          refine lv_iload_n hx hb dX7_note_16 rfl (lv_at hl 0 rfl) ?_
          refine lv_iconst (v := 1) hx hb dX7_note_17 (by decide) ?_
          refine lv_isub hx hb dX7_note_18 ?_
          refine lv_topi (fun x11 e11 => ?_)
          obtain rfl : x11 = 3 := e11.trans (by decide)
          refine va_iald (D := D) hx hb hK hP 6 0 (f := (upd (upd (upd (F 5) (7 : Int32).toNatClampNeg x3) (6 : Int32).toNatClampNeg x6) (5 : Int32).toNatClampNeg x9)) (n := 8) rfl rfl (by unfold vp_in; decide) dX7_note_19 ?_
          refine lv_topi (fun x12 e12 => ?_)
          refine va_iast (D := D) hx hb hK hP hD hS 6 0 (f := (upd (upd (upd (F 5) (7 : Int32).toNatClampNeg x3) (6 : Int32).toNatClampNeg x6) (5 : Int32).toNatClampNeg x9)) (n := 8) rfl rfl (by unfold vp_in; decide) dX7_note_20 (fun H locs hP hD hS => ?_)
          have hP : va_P D vwCl (mw cI a g d (vf_upd (vf_upd (vf_upd (vf_upd F 5 (upd (F 5) (7 : Int32).toNatClampNeg x3)) 5 (upd (upd (F 5) (7 : Int32).toNatClampNeg x3) (6 : Int32).toNatClampNeg x6)) 5 (upd (upd (upd (F 5) (7 : Int32).toNatClampNeg x3) (6 : Int32).toNatClampNeg x6) (5 : Int32).toNatClampNeg x9)) 5 (upd (upd (upd (upd (F 5) (7 : Int32).toNatClampNeg x3) (6 : Int32).toNatClampNeg x6) (5 : Int32).toNatClampNeg x9) (4 : Int32).toNatClampNeg x12))) H := hP
          have hD : va_D A (mw cI a g d (vf_upd (vf_upd (vf_upd (vf_upd F 5 (upd (F 5) (7 : Int32).toNatClampNeg x3)) 5 (upd (upd (F 5) (7 : Int32).toNatClampNeg x3) (6 : Int32).toNatClampNeg x6)) 5 (upd (upd (upd (F 5) (7 : Int32).toNatClampNeg x3) (6 : Int32).toNatClampNeg x6) (5 : Int32).toNatClampNeg x9)) 5 (upd (upd (upd (upd (F 5) (7 : Int32).toNatClampNeg x3) (6 : Int32).toNatClampNeg x6) (5 : Int32).toNatClampNeg x9) (4 : Int32).toNatClampNeg x12))) := hD
          refine lv_iinc (v := 3) (lv' := [(2, .int 3), (0, .ref ((a 0))), (1, .int p_ev)]) hx hb dX7_note_21 hl (k := 0) rfl (by decide) (by decide) rfl (fun ls hl => ?_)
          refine lv_goto (tgt := 3) hx hb dX7_note_24 (by decide) ?_
          refine lv_iload_n hx hb dX7_note_3 rfl (lv_at hl 0 rfl) ?_
          refine lv_if_le (tgt := 27) hx hb dX7_note_4 (by decide) (fun c13 => ?_) (fun c13 => ?_)
          · exact absurd c13 (by decide)
          · refine lv_aload_n hx hb dX7_note_7 rfl (lv_at hl 1 rfl) ?_
            refine va_get (D := D) (ci := 7) (v := .ref ((a 6))) (C := RX7) (T := TX7) (N := 41) hx hb hts hi7 hown hK hP 0 rfl rfl 40 (by decide) (hts (.fieldLink RX7 89 "GuardedCallsModel" "events" "[I") (by decide +kernel)) (fun _ h9 => h9) rfl dX7_note_8 ?_
            refine lv_iload_n hx hb dX7_note_11 rfl (lv_at hl 0 rfl) ?_
            refine lv_aload_n hx hb dX7_note_12 rfl (lv_at hl 1 rfl) ?_
            refine va_get (D := D) (ci := 7) (v := .ref ((a 6))) (C := RX7) (T := TX7) (N := 41) hx hb hts hi7 hown hK hP 0 rfl rfl 40 (by decide) (hts (.fieldLink RX7 89 "GuardedCallsModel" "events" "[I") (by decide +kernel)) (fun _ h9 => h9) rfl dX7_note_13 ?_
            refine lv_iload_n hx hb dX7_note_16 rfl (lv_at hl 0 rfl) ?_
            refine lv_iconst (v := 1) hx hb dX7_note_17 (by decide) ?_
            refine lv_isub hx hb dX7_note_18 ?_
            refine lv_topi (fun x14 e14 => ?_)
            obtain rfl : x14 = 2 := e14.trans (by decide)
            refine va_iald (D := D) hx hb hK hP 6 0 (f := (upd (upd (upd (upd (F 5) (7 : Int32).toNatClampNeg x3) (6 : Int32).toNatClampNeg x6) (5 : Int32).toNatClampNeg x9) (4 : Int32).toNatClampNeg x12)) (n := 8) rfl rfl (by unfold vp_in; decide) dX7_note_19 ?_
            refine lv_topi (fun x15 e15 => ?_)
            refine va_iast (D := D) hx hb hK hP hD hS 6 0 (f := (upd (upd (upd (upd (F 5) (7 : Int32).toNatClampNeg x3) (6 : Int32).toNatClampNeg x6) (5 : Int32).toNatClampNeg x9) (4 : Int32).toNatClampNeg x12)) (n := 8) rfl rfl (by unfold vp_in; decide) dX7_note_20 (fun H locs hP hD hS => ?_)
            have hP : va_P D vwCl (mw cI a g d (vf_upd (vf_upd (vf_upd (vf_upd (vf_upd F 5 (upd (F 5) (7 : Int32).toNatClampNeg x3)) 5 (upd (upd (F 5) (7 : Int32).toNatClampNeg x3) (6 : Int32).toNatClampNeg x6)) 5 (upd (upd (upd (F 5) (7 : Int32).toNatClampNeg x3) (6 : Int32).toNatClampNeg x6) (5 : Int32).toNatClampNeg x9)) 5 (upd (upd (upd (upd (F 5) (7 : Int32).toNatClampNeg x3) (6 : Int32).toNatClampNeg x6) (5 : Int32).toNatClampNeg x9) (4 : Int32).toNatClampNeg x12)) 5 (upd (upd (upd (upd (upd (F 5) (7 : Int32).toNatClampNeg x3) (6 : Int32).toNatClampNeg x6) (5 : Int32).toNatClampNeg x9) (4 : Int32).toNatClampNeg x12) (3 : Int32).toNatClampNeg x15))) H := hP
            have hD : va_D A (mw cI a g d (vf_upd (vf_upd (vf_upd (vf_upd (vf_upd F 5 (upd (F 5) (7 : Int32).toNatClampNeg x3)) 5 (upd (upd (F 5) (7 : Int32).toNatClampNeg x3) (6 : Int32).toNatClampNeg x6)) 5 (upd (upd (upd (F 5) (7 : Int32).toNatClampNeg x3) (6 : Int32).toNatClampNeg x6) (5 : Int32).toNatClampNeg x9)) 5 (upd (upd (upd (upd (F 5) (7 : Int32).toNatClampNeg x3) (6 : Int32).toNatClampNeg x6) (5 : Int32).toNatClampNeg x9) (4 : Int32).toNatClampNeg x12)) 5 (upd (upd (upd (upd (upd (F 5) (7 : Int32).toNatClampNeg x3) (6 : Int32).toNatClampNeg x6) (5 : Int32).toNatClampNeg x9) (4 : Int32).toNatClampNeg x12) (3 : Int32).toNatClampNeg x15))) := hD
            refine lv_iinc (v := 2) (lv' := [(2, .int 2), (0, .ref ((a 0))), (1, .int p_ev)]) hx hb dX7_note_21 hl (k := 0) rfl (by decide) (by decide) rfl (fun ls hl => ?_)
            refine lv_goto (tgt := 3) hx hb dX7_note_24 (by decide) ?_
            refine lv_iload_n hx hb dX7_note_3 rfl (lv_at hl 0 rfl) ?_
            refine lv_if_le (tgt := 27) hx hb dX7_note_4 (by decide) (fun c16 => ?_) (fun c16 => ?_)
            · exact absurd c16 (by decide)
            · refine lv_aload_n hx hb dX7_note_7 rfl (lv_at hl 1 rfl) ?_
              refine va_get (D := D) (ci := 7) (v := .ref ((a 6))) (C := RX7) (T := TX7) (N := 41) hx hb hts hi7 hown hK hP 0 rfl rfl 40 (by decide) (hts (.fieldLink RX7 89 "GuardedCallsModel" "events" "[I") (by decide +kernel)) (fun _ h9 => h9) rfl dX7_note_8 ?_
              refine lv_iload_n hx hb dX7_note_11 rfl (lv_at hl 0 rfl) ?_
              refine lv_aload_n hx hb dX7_note_12 rfl (lv_at hl 1 rfl) ?_
              refine va_get (D := D) (ci := 7) (v := .ref ((a 6))) (C := RX7) (T := TX7) (N := 41) hx hb hts hi7 hown hK hP 0 rfl rfl 40 (by decide) (hts (.fieldLink RX7 89 "GuardedCallsModel" "events" "[I") (by decide +kernel)) (fun _ h9 => h9) rfl dX7_note_13 ?_
              refine lv_iload_n hx hb dX7_note_16 rfl (lv_at hl 0 rfl) ?_
              refine lv_iconst (v := 1) hx hb dX7_note_17 (by decide) ?_
              refine lv_isub hx hb dX7_note_18 ?_
              refine lv_topi (fun x17 e17 => ?_)
              obtain rfl : x17 = 1 := e17.trans (by decide)
              refine va_iald (D := D) hx hb hK hP 6 0 (f := (upd (upd (upd (upd (upd (F 5) (7 : Int32).toNatClampNeg x3) (6 : Int32).toNatClampNeg x6) (5 : Int32).toNatClampNeg x9) (4 : Int32).toNatClampNeg x12) (3 : Int32).toNatClampNeg x15)) (n := 8) rfl rfl (by unfold vp_in; decide) dX7_note_19 ?_
              refine lv_topi (fun x18 e18 => ?_)
              refine va_iast (D := D) hx hb hK hP hD hS 6 0 (f := (upd (upd (upd (upd (upd (F 5) (7 : Int32).toNatClampNeg x3) (6 : Int32).toNatClampNeg x6) (5 : Int32).toNatClampNeg x9) (4 : Int32).toNatClampNeg x12) (3 : Int32).toNatClampNeg x15)) (n := 8) rfl rfl (by unfold vp_in; decide) dX7_note_20 (fun H locs hP hD hS => ?_)
              have hP : va_P D vwCl (mw cI a g d (vf_upd (vf_upd (vf_upd (vf_upd (vf_upd (vf_upd F 5 (upd (F 5) (7 : Int32).toNatClampNeg x3)) 5 (upd (upd (F 5) (7 : Int32).toNatClampNeg x3) (6 : Int32).toNatClampNeg x6)) 5 (upd (upd (upd (F 5) (7 : Int32).toNatClampNeg x3) (6 : Int32).toNatClampNeg x6) (5 : Int32).toNatClampNeg x9)) 5 (upd (upd (upd (upd (F 5) (7 : Int32).toNatClampNeg x3) (6 : Int32).toNatClampNeg x6) (5 : Int32).toNatClampNeg x9) (4 : Int32).toNatClampNeg x12)) 5 (upd (upd (upd (upd (upd (F 5) (7 : Int32).toNatClampNeg x3) (6 : Int32).toNatClampNeg x6) (5 : Int32).toNatClampNeg x9) (4 : Int32).toNatClampNeg x12) (3 : Int32).toNatClampNeg x15)) 5 (upd (upd (upd (upd (upd (upd (F 5) (7 : Int32).toNatClampNeg x3) (6 : Int32).toNatClampNeg x6) (5 : Int32).toNatClampNeg x9) (4 : Int32).toNatClampNeg x12) (3 : Int32).toNatClampNeg x15) (2 : Int32).toNatClampNeg x18))) H := hP
              have hD : va_D A (mw cI a g d (vf_upd (vf_upd (vf_upd (vf_upd (vf_upd (vf_upd F 5 (upd (F 5) (7 : Int32).toNatClampNeg x3)) 5 (upd (upd (F 5) (7 : Int32).toNatClampNeg x3) (6 : Int32).toNatClampNeg x6)) 5 (upd (upd (upd (F 5) (7 : Int32).toNatClampNeg x3) (6 : Int32).toNatClampNeg x6) (5 : Int32).toNatClampNeg x9)) 5 (upd (upd (upd (upd (F 5) (7 : Int32).toNatClampNeg x3) (6 : Int32).toNatClampNeg x6) (5 : Int32).toNatClampNeg x9) (4 : Int32).toNatClampNeg x12)) 5 (upd (upd (upd (upd (upd (F 5) (7 : Int32).toNatClampNeg x3) (6 : Int32).toNatClampNeg x6) (5 : Int32).toNatClampNeg x9) (4 : Int32).toNatClampNeg x12) (3 : Int32).toNatClampNeg x15)) 5 (upd (upd (upd (upd (upd (upd (F 5) (7 : Int32).toNatClampNeg x3) (6 : Int32).toNatClampNeg x6) (5 : Int32).toNatClampNeg x9) (4 : Int32).toNatClampNeg x12) (3 : Int32).toNatClampNeg x15) (2 : Int32).toNatClampNeg x18))) := hD
              refine lv_iinc (v := 1) (lv' := [(2, .int 1), (0, .ref ((a 0))), (1, .int p_ev)]) hx hb dX7_note_21 hl (k := 0) rfl (by decide) (by decide) rfl (fun ls hl => ?_)
              refine lv_goto (tgt := 3) hx hb dX7_note_24 (by decide) ?_
              refine lv_iload_n hx hb dX7_note_3 rfl (lv_at hl 0 rfl) ?_
              refine lv_if_le (tgt := 27) hx hb dX7_note_4 (by decide) (fun c19 => ?_) (fun c19 => ?_)
              · exact absurd c19 (by decide)
              · refine lv_aload_n hx hb dX7_note_7 rfl (lv_at hl 1 rfl) ?_
                refine va_get (D := D) (ci := 7) (v := .ref ((a 6))) (C := RX7) (T := TX7) (N := 41) hx hb hts hi7 hown hK hP 0 rfl rfl 40 (by decide) (hts (.fieldLink RX7 89 "GuardedCallsModel" "events" "[I") (by decide +kernel)) (fun _ h9 => h9) rfl dX7_note_8 ?_
                refine lv_iload_n hx hb dX7_note_11 rfl (lv_at hl 0 rfl) ?_
                refine lv_aload_n hx hb dX7_note_12 rfl (lv_at hl 1 rfl) ?_
                refine va_get (D := D) (ci := 7) (v := .ref ((a 6))) (C := RX7) (T := TX7) (N := 41) hx hb hts hi7 hown hK hP 0 rfl rfl 40 (by decide) (hts (.fieldLink RX7 89 "GuardedCallsModel" "events" "[I") (by decide +kernel)) (fun _ h9 => h9) rfl dX7_note_13 ?_
                refine lv_iload_n hx hb dX7_note_16 rfl (lv_at hl 0 rfl) ?_
                refine lv_iconst (v := 1) hx hb dX7_note_17 (by decide) ?_
                refine lv_isub hx hb dX7_note_18 ?_
                refine lv_topi (fun x20 e20 => ?_)
                obtain rfl : x20 = 0 := e20.trans (by decide)
                refine va_iald (D := D) hx hb hK hP 6 0 (f := (upd (upd (upd (upd (upd (upd (F 5) (7 : Int32).toNatClampNeg x3) (6 : Int32).toNatClampNeg x6) (5 : Int32).toNatClampNeg x9) (4 : Int32).toNatClampNeg x12) (3 : Int32).toNatClampNeg x15) (2 : Int32).toNatClampNeg x18)) (n := 8) rfl rfl (by unfold vp_in; decide) dX7_note_19 ?_
                refine lv_topi (fun x21 e21 => ?_)
                refine va_iast (D := D) hx hb hK hP hD hS 6 0 (f := (upd (upd (upd (upd (upd (upd (F 5) (7 : Int32).toNatClampNeg x3) (6 : Int32).toNatClampNeg x6) (5 : Int32).toNatClampNeg x9) (4 : Int32).toNatClampNeg x12) (3 : Int32).toNatClampNeg x15) (2 : Int32).toNatClampNeg x18)) (n := 8) rfl rfl (by unfold vp_in; decide) dX7_note_20 (fun H locs hP hD hS => ?_)
                have hP : va_P D vwCl (mw cI a g d (vf_upd (vf_upd (vf_upd (vf_upd (vf_upd (vf_upd (vf_upd F 5 (upd (F 5) (7 : Int32).toNatClampNeg x3)) 5 (upd (upd (F 5) (7 : Int32).toNatClampNeg x3) (6 : Int32).toNatClampNeg x6)) 5 (upd (upd (upd (F 5) (7 : Int32).toNatClampNeg x3) (6 : Int32).toNatClampNeg x6) (5 : Int32).toNatClampNeg x9)) 5 (upd (upd (upd (upd (F 5) (7 : Int32).toNatClampNeg x3) (6 : Int32).toNatClampNeg x6) (5 : Int32).toNatClampNeg x9) (4 : Int32).toNatClampNeg x12)) 5 (upd (upd (upd (upd (upd (F 5) (7 : Int32).toNatClampNeg x3) (6 : Int32).toNatClampNeg x6) (5 : Int32).toNatClampNeg x9) (4 : Int32).toNatClampNeg x12) (3 : Int32).toNatClampNeg x15)) 5 (upd (upd (upd (upd (upd (upd (F 5) (7 : Int32).toNatClampNeg x3) (6 : Int32).toNatClampNeg x6) (5 : Int32).toNatClampNeg x9) (4 : Int32).toNatClampNeg x12) (3 : Int32).toNatClampNeg x15) (2 : Int32).toNatClampNeg x18)) 5 (upd (upd (upd (upd (upd (upd (upd (F 5) (7 : Int32).toNatClampNeg x3) (6 : Int32).toNatClampNeg x6) (5 : Int32).toNatClampNeg x9) (4 : Int32).toNatClampNeg x12) (3 : Int32).toNatClampNeg x15) (2 : Int32).toNatClampNeg x18) (1 : Int32).toNatClampNeg x21))) H := hP
                have hD : va_D A (mw cI a g d (vf_upd (vf_upd (vf_upd (vf_upd (vf_upd (vf_upd (vf_upd F 5 (upd (F 5) (7 : Int32).toNatClampNeg x3)) 5 (upd (upd (F 5) (7 : Int32).toNatClampNeg x3) (6 : Int32).toNatClampNeg x6)) 5 (upd (upd (upd (F 5) (7 : Int32).toNatClampNeg x3) (6 : Int32).toNatClampNeg x6) (5 : Int32).toNatClampNeg x9)) 5 (upd (upd (upd (upd (F 5) (7 : Int32).toNatClampNeg x3) (6 : Int32).toNatClampNeg x6) (5 : Int32).toNatClampNeg x9) (4 : Int32).toNatClampNeg x12)) 5 (upd (upd (upd (upd (upd (F 5) (7 : Int32).toNatClampNeg x3) (6 : Int32).toNatClampNeg x6) (5 : Int32).toNatClampNeg x9) (4 : Int32).toNatClampNeg x12) (3 : Int32).toNatClampNeg x15)) 5 (upd (upd (upd (upd (upd (upd (F 5) (7 : Int32).toNatClampNeg x3) (6 : Int32).toNatClampNeg x6) (5 : Int32).toNatClampNeg x9) (4 : Int32).toNatClampNeg x12) (3 : Int32).toNatClampNeg x15) (2 : Int32).toNatClampNeg x18)) 5 (upd (upd (upd (upd (upd (upd (upd (F 5) (7 : Int32).toNatClampNeg x3) (6 : Int32).toNatClampNeg x6) (5 : Int32).toNatClampNeg x9) (4 : Int32).toNatClampNeg x12) (3 : Int32).toNatClampNeg x15) (2 : Int32).toNatClampNeg x18) (1 : Int32).toNatClampNeg x21))) := hD
                refine lv_iinc (v := 0) (lv' := [(2, .int 0), (0, .ref ((a 0))), (1, .int p_ev)]) hx hb dX7_note_21 hl (k := 0) rfl (by decide) (by decide) rfl (fun ls hl => ?_)
                refine lv_goto (tgt := 3) hx hb dX7_note_24 (by decide) ?_
                refine lv_iload_n hx hb dX7_note_3 rfl (lv_at hl 0 rfl) ?_
                refine lv_if_le (tgt := 27) hx hb dX7_note_4 (by decide) (fun c22 => ?_) (fun c22 => ?_)
                · refine lv_aload_n hx hb dX7_note_27 rfl (lv_at hl 1 rfl) ?_
                  refine va_get (D := D) (ci := 7) (v := .ref ((a 6))) (C := RX7) (T := TX7) (N := 41) hx hb hts hi7 hown hK hP 0 rfl rfl 40 (by decide) (hts (.fieldLink RX7 89 "GuardedCallsModel" "events" "[I") (by decide +kernel)) (fun _ h9 => h9) rfl dX7_note_28 ?_
                  refine lv_iconst (v := 0) hx hb dX7_note_31 (by decide) ?_
                  refine lv_iload_n hx hb dX7_note_32 rfl (lv_at hl 2 rfl) ?_
                  refine va_iast (D := D) hx hb hK hP hD hS 6 0 (f := (upd (upd (upd (upd (upd (upd (upd (F 5) (7 : Int32).toNatClampNeg x3) (6 : Int32).toNatClampNeg x6) (5 : Int32).toNatClampNeg x9) (4 : Int32).toNatClampNeg x12) (3 : Int32).toNatClampNeg x15) (2 : Int32).toNatClampNeg x18) (1 : Int32).toNatClampNeg x21)) (n := 8) rfl rfl (by unfold vp_in; decide) dX7_note_33 (fun H locs hP hD hS => ?_)
                  have hP : va_P D vwCl (mw cI a g d (vf_upd (vf_upd (vf_upd (vf_upd (vf_upd (vf_upd (vf_upd (vf_upd F 5 (upd (F 5) (7 : Int32).toNatClampNeg x3)) 5 (upd (upd (F 5) (7 : Int32).toNatClampNeg x3) (6 : Int32).toNatClampNeg x6)) 5 (upd (upd (upd (F 5) (7 : Int32).toNatClampNeg x3) (6 : Int32).toNatClampNeg x6) (5 : Int32).toNatClampNeg x9)) 5 (upd (upd (upd (upd (F 5) (7 : Int32).toNatClampNeg x3) (6 : Int32).toNatClampNeg x6) (5 : Int32).toNatClampNeg x9) (4 : Int32).toNatClampNeg x12)) 5 (upd (upd (upd (upd (upd (F 5) (7 : Int32).toNatClampNeg x3) (6 : Int32).toNatClampNeg x6) (5 : Int32).toNatClampNeg x9) (4 : Int32).toNatClampNeg x12) (3 : Int32).toNatClampNeg x15)) 5 (upd (upd (upd (upd (upd (upd (F 5) (7 : Int32).toNatClampNeg x3) (6 : Int32).toNatClampNeg x6) (5 : Int32).toNatClampNeg x9) (4 : Int32).toNatClampNeg x12) (3 : Int32).toNatClampNeg x15) (2 : Int32).toNatClampNeg x18)) 5 (upd (upd (upd (upd (upd (upd (upd (F 5) (7 : Int32).toNatClampNeg x3) (6 : Int32).toNatClampNeg x6) (5 : Int32).toNatClampNeg x9) (4 : Int32).toNatClampNeg x12) (3 : Int32).toNatClampNeg x15) (2 : Int32).toNatClampNeg x18) (1 : Int32).toNatClampNeg x21)) 5 (upd (upd (upd (upd (upd (upd (upd (upd (F 5) (7 : Int32).toNatClampNeg x3) (6 : Int32).toNatClampNeg x6) (5 : Int32).toNatClampNeg x9) (4 : Int32).toNatClampNeg x12) (3 : Int32).toNatClampNeg x15) (2 : Int32).toNatClampNeg x18) (1 : Int32).toNatClampNeg x21) (0 : Int32).toNatClampNeg p_ev))) H := hP
                  have hD : va_D A (mw cI a g d (vf_upd (vf_upd (vf_upd (vf_upd (vf_upd (vf_upd (vf_upd (vf_upd F 5 (upd (F 5) (7 : Int32).toNatClampNeg x3)) 5 (upd (upd (F 5) (7 : Int32).toNatClampNeg x3) (6 : Int32).toNatClampNeg x6)) 5 (upd (upd (upd (F 5) (7 : Int32).toNatClampNeg x3) (6 : Int32).toNatClampNeg x6) (5 : Int32).toNatClampNeg x9)) 5 (upd (upd (upd (upd (F 5) (7 : Int32).toNatClampNeg x3) (6 : Int32).toNatClampNeg x6) (5 : Int32).toNatClampNeg x9) (4 : Int32).toNatClampNeg x12)) 5 (upd (upd (upd (upd (upd (F 5) (7 : Int32).toNatClampNeg x3) (6 : Int32).toNatClampNeg x6) (5 : Int32).toNatClampNeg x9) (4 : Int32).toNatClampNeg x12) (3 : Int32).toNatClampNeg x15)) 5 (upd (upd (upd (upd (upd (upd (F 5) (7 : Int32).toNatClampNeg x3) (6 : Int32).toNatClampNeg x6) (5 : Int32).toNatClampNeg x9) (4 : Int32).toNatClampNeg x12) (3 : Int32).toNatClampNeg x15) (2 : Int32).toNatClampNeg x18)) 5 (upd (upd (upd (upd (upd (upd (upd (F 5) (7 : Int32).toNatClampNeg x3) (6 : Int32).toNatClampNeg x6) (5 : Int32).toNatClampNeg x9) (4 : Int32).toNatClampNeg x12) (3 : Int32).toNatClampNeg x15) (2 : Int32).toNatClampNeg x18) (1 : Int32).toNatClampNeg x21)) 5 (upd (upd (upd (upd (upd (upd (upd (upd (F 5) (7 : Int32).toNatClampNeg x3) (6 : Int32).toNatClampNeg x6) (5 : Int32).toNatClampNeg x9) (4 : Int32).toNatClampNeg x12) (3 : Int32).toNatClampNeg x15) (2 : Int32).toNatClampNeg x18) (1 : Int32).toNatClampNeg x21) (0 : Int32).toNatClampNeg p_ev))) := hD
                  refine lv_aload_n hx hb dX7_note_34 rfl (lv_at hl 1 rfl) ?_
                  refine lv_aload_n hx hb dX7_note_35 rfl (lv_at hl 1 rfl) ?_
                  refine va_get (D := D) (ci := 7) (v := .int ((g 39))) (C := RX7) (T := TX7) (N := 41) hx hb hts hi7 hown hK hP 0 rfl rfl 39 (by decide) (hts (.fieldLink RX7 99 "GuardedCallsModel" "many" "I") (by decide +kernel)) (fun _ h9 => h9) rfl dX7_note_36 ?_
                  refine lv_bipush (v := 8) hx hb dX7_note_39 (by decide) ?_
                  refine lv_icmp_ge (tgt := 53) hx hb dX7_note_41 (by decide) (fun c23 => ?_) (fun c23 => ?_)
                  · refine lv_bipush (v := 8) hx hb dX7_note_53 (by decide) ?_
                    refine va_put (D := D) (ci := 7) (v := .int 8) (ty := .int) (C := RX7) (T := TX7) (N := 41) hx hb hts hi7 tyX7 tyX7_ok nmX7 hown hK hP hD hS 0 rfl rfl 39 (by decide) (hts (.fieldLink RX7 99 "GuardedCallsModel" "many" "I") (by decide +kernel)) (fun _ h9 => h9) rfl (by decide +kernel) rfl rfl (Nat.le_of_ble_eq_true rfl) dX7_note_55 (fun H locs hP hD hS => ?_)
                    have hP : va_P D vwCl (mw cI a (upd g 39 8) d (vf_upd (vf_upd (vf_upd (vf_upd (vf_upd (vf_upd (vf_upd (vf_upd F 5 (upd (F 5) (7 : Int32).toNatClampNeg x3)) 5 (upd (upd (F 5) (7 : Int32).toNatClampNeg x3) (6 : Int32).toNatClampNeg x6)) 5 (upd (upd (upd (F 5) (7 : Int32).toNatClampNeg x3) (6 : Int32).toNatClampNeg x6) (5 : Int32).toNatClampNeg x9)) 5 (upd (upd (upd (upd (F 5) (7 : Int32).toNatClampNeg x3) (6 : Int32).toNatClampNeg x6) (5 : Int32).toNatClampNeg x9) (4 : Int32).toNatClampNeg x12)) 5 (upd (upd (upd (upd (upd (F 5) (7 : Int32).toNatClampNeg x3) (6 : Int32).toNatClampNeg x6) (5 : Int32).toNatClampNeg x9) (4 : Int32).toNatClampNeg x12) (3 : Int32).toNatClampNeg x15)) 5 (upd (upd (upd (upd (upd (upd (F 5) (7 : Int32).toNatClampNeg x3) (6 : Int32).toNatClampNeg x6) (5 : Int32).toNatClampNeg x9) (4 : Int32).toNatClampNeg x12) (3 : Int32).toNatClampNeg x15) (2 : Int32).toNatClampNeg x18)) 5 (upd (upd (upd (upd (upd (upd (upd (F 5) (7 : Int32).toNatClampNeg x3) (6 : Int32).toNatClampNeg x6) (5 : Int32).toNatClampNeg x9) (4 : Int32).toNatClampNeg x12) (3 : Int32).toNatClampNeg x15) (2 : Int32).toNatClampNeg x18) (1 : Int32).toNatClampNeg x21)) 5 (upd (upd (upd (upd (upd (upd (upd (upd (F 5) (7 : Int32).toNatClampNeg x3) (6 : Int32).toNatClampNeg x6) (5 : Int32).toNatClampNeg x9) (4 : Int32).toNatClampNeg x12) (3 : Int32).toNatClampNeg x15) (2 : Int32).toNatClampNeg x18) (1 : Int32).toNatClampNeg x21) (0 : Int32).toNatClampNeg p_ev))) H := hP
                    have hD : va_D A (mw cI a (upd g 39 8) d (vf_upd (vf_upd (vf_upd (vf_upd (vf_upd (vf_upd (vf_upd (vf_upd F 5 (upd (F 5) (7 : Int32).toNatClampNeg x3)) 5 (upd (upd (F 5) (7 : Int32).toNatClampNeg x3) (6 : Int32).toNatClampNeg x6)) 5 (upd (upd (upd (F 5) (7 : Int32).toNatClampNeg x3) (6 : Int32).toNatClampNeg x6) (5 : Int32).toNatClampNeg x9)) 5 (upd (upd (upd (upd (F 5) (7 : Int32).toNatClampNeg x3) (6 : Int32).toNatClampNeg x6) (5 : Int32).toNatClampNeg x9) (4 : Int32).toNatClampNeg x12)) 5 (upd (upd (upd (upd (upd (F 5) (7 : Int32).toNatClampNeg x3) (6 : Int32).toNatClampNeg x6) (5 : Int32).toNatClampNeg x9) (4 : Int32).toNatClampNeg x12) (3 : Int32).toNatClampNeg x15)) 5 (upd (upd (upd (upd (upd (upd (F 5) (7 : Int32).toNatClampNeg x3) (6 : Int32).toNatClampNeg x6) (5 : Int32).toNatClampNeg x9) (4 : Int32).toNatClampNeg x12) (3 : Int32).toNatClampNeg x15) (2 : Int32).toNatClampNeg x18)) 5 (upd (upd (upd (upd (upd (upd (upd (F 5) (7 : Int32).toNatClampNeg x3) (6 : Int32).toNatClampNeg x6) (5 : Int32).toNatClampNeg x9) (4 : Int32).toNatClampNeg x12) (3 : Int32).toNatClampNeg x15) (2 : Int32).toNatClampNeg x18) (1 : Int32).toNatClampNeg x21)) 5 (upd (upd (upd (upd (upd (upd (upd (upd (F 5) (7 : Int32).toNatClampNeg x3) (6 : Int32).toNatClampNeg x6) (5 : Int32).toNatClampNeg x9) (4 : Int32).toNatClampNeg x12) (3 : Int32).toNatClampNeg x15) (2 : Int32).toNatClampNeg x18) (1 : Int32).toNatClampNeg x21) (0 : Int32).toNatClampNeg p_ev))) := hD
                    exact W.vret hx hb hr (fun t ht hW => ⟨⟨(upd g 39 8, d, vf_upd (vf_upd (vf_upd (vf_upd (vf_upd (vf_upd (vf_upd (vf_upd F 5 (upd (F 5) (7 : Int32).toNatClampNeg x3)) 5 (upd (upd (F 5) (7 : Int32).toNatClampNeg x3) (6 : Int32).toNatClampNeg x6)) 5 (upd (upd (upd (F 5) (7 : Int32).toNatClampNeg x3) (6 : Int32).toNatClampNeg x6) (5 : Int32).toNatClampNeg x9)) 5 (upd (upd (upd (upd (F 5) (7 : Int32).toNatClampNeg x3) (6 : Int32).toNatClampNeg x6) (5 : Int32).toNatClampNeg x9) (4 : Int32).toNatClampNeg x12)) 5 (upd (upd (upd (upd (upd (F 5) (7 : Int32).toNatClampNeg x3) (6 : Int32).toNatClampNeg x6) (5 : Int32).toNatClampNeg x9) (4 : Int32).toNatClampNeg x12) (3 : Int32).toNatClampNeg x15)) 5 (upd (upd (upd (upd (upd (upd (F 5) (7 : Int32).toNatClampNeg x3) (6 : Int32).toNatClampNeg x6) (5 : Int32).toNatClampNeg x9) (4 : Int32).toNatClampNeg x12) (3 : Int32).toNatClampNeg x15) (2 : Int32).toNatClampNeg x18)) 5 (upd (upd (upd (upd (upd (upd (upd (F 5) (7 : Int32).toNatClampNeg x3) (6 : Int32).toNatClampNeg x6) (5 : Int32).toNatClampNeg x9) (4 : Int32).toNatClampNeg x12) (3 : Int32).toNatClampNeg x15) (2 : Int32).toNatClampNeg x18) (1 : Int32).toNatClampNeg x21)) 5 (upd (upd (upd (upd (upd (upd (upd (upd (F 5) (7 : Int32).toNatClampNeg x3) (6 : Int32).toNatClampNeg x6) (5 : Int32).toNatClampNeg x9) (4 : Int32).toNatClampNeg x12) (3 : Int32).toNatClampNeg x15) (2 : Int32).toNatClampNeg x18) (1 : Int32).toNatClampNeg x21) (0 : Int32).toNatClampNeg p_ev)), rfl, ⟨fun k h1 => by simp [upd, h1], rfl, fun k h1 => by simp [vf_upd, h1]⟩, by rw [ht]; exact hP, hD⟩, hS.F ht⟩) hS.2.2 dX7_note_58
                  · refine lv_aload_n hx hb dX7_note_44 rfl (lv_at hl 1 rfl) ?_
                    refine va_get (D := D) (ci := 7) (v := .int ((g 39))) (C := RX7) (T := TX7) (N := 41) hx hb hts hi7 hown hK hP 0 rfl rfl 39 (by decide) (hts (.fieldLink RX7 99 "GuardedCallsModel" "many" "I") (by decide +kernel)) (fun _ h9 => h9) rfl dX7_note_45 ?_
                    refine lv_iconst (v := 1) hx hb dX7_note_48 (by decide) ?_
                    refine lv_iadd hx hb dX7_note_49 ?_
                    refine lv_topi (fun x24 e24 => ?_)
                    refine lv_goto (tgt := 55) hx hb dX7_note_50 (by decide) ?_
                    refine va_put (D := D) (ci := 7) (v := .int x24) (ty := .int) (C := RX7) (T := TX7) (N := 41) hx hb hts hi7 tyX7 tyX7_ok nmX7 hown hK hP hD hS 0 rfl rfl 39 (by decide) (hts (.fieldLink RX7 99 "GuardedCallsModel" "many" "I") (by decide +kernel)) (fun _ h9 => h9) rfl (by decide +kernel) rfl rfl (Nat.le_of_ble_eq_true rfl) dX7_note_55 (fun H locs hP hD hS => ?_)
                    have hP : va_P D vwCl (mw cI a (upd g 39 x24) d (vf_upd (vf_upd (vf_upd (vf_upd (vf_upd (vf_upd (vf_upd (vf_upd F 5 (upd (F 5) (7 : Int32).toNatClampNeg x3)) 5 (upd (upd (F 5) (7 : Int32).toNatClampNeg x3) (6 : Int32).toNatClampNeg x6)) 5 (upd (upd (upd (F 5) (7 : Int32).toNatClampNeg x3) (6 : Int32).toNatClampNeg x6) (5 : Int32).toNatClampNeg x9)) 5 (upd (upd (upd (upd (F 5) (7 : Int32).toNatClampNeg x3) (6 : Int32).toNatClampNeg x6) (5 : Int32).toNatClampNeg x9) (4 : Int32).toNatClampNeg x12)) 5 (upd (upd (upd (upd (upd (F 5) (7 : Int32).toNatClampNeg x3) (6 : Int32).toNatClampNeg x6) (5 : Int32).toNatClampNeg x9) (4 : Int32).toNatClampNeg x12) (3 : Int32).toNatClampNeg x15)) 5 (upd (upd (upd (upd (upd (upd (F 5) (7 : Int32).toNatClampNeg x3) (6 : Int32).toNatClampNeg x6) (5 : Int32).toNatClampNeg x9) (4 : Int32).toNatClampNeg x12) (3 : Int32).toNatClampNeg x15) (2 : Int32).toNatClampNeg x18)) 5 (upd (upd (upd (upd (upd (upd (upd (F 5) (7 : Int32).toNatClampNeg x3) (6 : Int32).toNatClampNeg x6) (5 : Int32).toNatClampNeg x9) (4 : Int32).toNatClampNeg x12) (3 : Int32).toNatClampNeg x15) (2 : Int32).toNatClampNeg x18) (1 : Int32).toNatClampNeg x21)) 5 (upd (upd (upd (upd (upd (upd (upd (upd (F 5) (7 : Int32).toNatClampNeg x3) (6 : Int32).toNatClampNeg x6) (5 : Int32).toNatClampNeg x9) (4 : Int32).toNatClampNeg x12) (3 : Int32).toNatClampNeg x15) (2 : Int32).toNatClampNeg x18) (1 : Int32).toNatClampNeg x21) (0 : Int32).toNatClampNeg p_ev))) H := hP
                    have hD : va_D A (mw cI a (upd g 39 x24) d (vf_upd (vf_upd (vf_upd (vf_upd (vf_upd (vf_upd (vf_upd (vf_upd F 5 (upd (F 5) (7 : Int32).toNatClampNeg x3)) 5 (upd (upd (F 5) (7 : Int32).toNatClampNeg x3) (6 : Int32).toNatClampNeg x6)) 5 (upd (upd (upd (F 5) (7 : Int32).toNatClampNeg x3) (6 : Int32).toNatClampNeg x6) (5 : Int32).toNatClampNeg x9)) 5 (upd (upd (upd (upd (F 5) (7 : Int32).toNatClampNeg x3) (6 : Int32).toNatClampNeg x6) (5 : Int32).toNatClampNeg x9) (4 : Int32).toNatClampNeg x12)) 5 (upd (upd (upd (upd (upd (F 5) (7 : Int32).toNatClampNeg x3) (6 : Int32).toNatClampNeg x6) (5 : Int32).toNatClampNeg x9) (4 : Int32).toNatClampNeg x12) (3 : Int32).toNatClampNeg x15)) 5 (upd (upd (upd (upd (upd (upd (F 5) (7 : Int32).toNatClampNeg x3) (6 : Int32).toNatClampNeg x6) (5 : Int32).toNatClampNeg x9) (4 : Int32).toNatClampNeg x12) (3 : Int32).toNatClampNeg x15) (2 : Int32).toNatClampNeg x18)) 5 (upd (upd (upd (upd (upd (upd (upd (F 5) (7 : Int32).toNatClampNeg x3) (6 : Int32).toNatClampNeg x6) (5 : Int32).toNatClampNeg x9) (4 : Int32).toNatClampNeg x12) (3 : Int32).toNatClampNeg x15) (2 : Int32).toNatClampNeg x18) (1 : Int32).toNatClampNeg x21)) 5 (upd (upd (upd (upd (upd (upd (upd (upd (F 5) (7 : Int32).toNatClampNeg x3) (6 : Int32).toNatClampNeg x6) (5 : Int32).toNatClampNeg x9) (4 : Int32).toNatClampNeg x12) (3 : Int32).toNatClampNeg x15) (2 : Int32).toNatClampNeg x18) (1 : Int32).toNatClampNeg x21) (0 : Int32).toNatClampNeg p_ev))) := hD
                    exact W.vret hx hb hr (fun t ht hW => ⟨⟨(upd g 39 x24, d, vf_upd (vf_upd (vf_upd (vf_upd (vf_upd (vf_upd (vf_upd (vf_upd F 5 (upd (F 5) (7 : Int32).toNatClampNeg x3)) 5 (upd (upd (F 5) (7 : Int32).toNatClampNeg x3) (6 : Int32).toNatClampNeg x6)) 5 (upd (upd (upd (F 5) (7 : Int32).toNatClampNeg x3) (6 : Int32).toNatClampNeg x6) (5 : Int32).toNatClampNeg x9)) 5 (upd (upd (upd (upd (F 5) (7 : Int32).toNatClampNeg x3) (6 : Int32).toNatClampNeg x6) (5 : Int32).toNatClampNeg x9) (4 : Int32).toNatClampNeg x12)) 5 (upd (upd (upd (upd (upd (F 5) (7 : Int32).toNatClampNeg x3) (6 : Int32).toNatClampNeg x6) (5 : Int32).toNatClampNeg x9) (4 : Int32).toNatClampNeg x12) (3 : Int32).toNatClampNeg x15)) 5 (upd (upd (upd (upd (upd (upd (F 5) (7 : Int32).toNatClampNeg x3) (6 : Int32).toNatClampNeg x6) (5 : Int32).toNatClampNeg x9) (4 : Int32).toNatClampNeg x12) (3 : Int32).toNatClampNeg x15) (2 : Int32).toNatClampNeg x18)) 5 (upd (upd (upd (upd (upd (upd (upd (F 5) (7 : Int32).toNatClampNeg x3) (6 : Int32).toNatClampNeg x6) (5 : Int32).toNatClampNeg x9) (4 : Int32).toNatClampNeg x12) (3 : Int32).toNatClampNeg x15) (2 : Int32).toNatClampNeg x18) (1 : Int32).toNatClampNeg x21)) 5 (upd (upd (upd (upd (upd (upd (upd (upd (F 5) (7 : Int32).toNatClampNeg x3) (6 : Int32).toNatClampNeg x6) (5 : Int32).toNatClampNeg x9) (4 : Int32).toNatClampNeg x12) (3 : Int32).toNatClampNeg x15) (2 : Int32).toNatClampNeg x18) (1 : Int32).toNatClampNeg x21) (0 : Int32).toNatClampNeg p_ev)), rfl, ⟨fun k h1 => by simp [upd, h1], rfl, fun k h1 => by simp [vf_upd, h1]⟩, by rw [ht]; exact hP, hD⟩, hS.F ht⟩) hS.2.2 dX7_note_58
                · exact absurd c22 (by decide)
set_option maxHeartbeats 4000000 in
set_option maxRecDepth 100000 in
theorem c_X7_become (l : Launch) (D : va_G) (cI : ClassId) (a : Nat → Nat) (sz : Nat) (g : Nat → Int32) (d : Nat → UInt64) (F : Nat → Nat → Int32) (p_st : Int32) : Met l yX7_become wsX7_become ({ frames := 0, cells := 0, slots := 0, locals := 0 }) (gP (KM D cI) D (mw cI a g d F) sz [.ref (a 0), .int p_st]) (va_Qv (fun (u : SS) => u = (upd (upd (upd g 18 p_st) 21 0) 20 0, d, F)) (gB D (wfM cI a) (va_A (mw cI a g d F) sz)) (va_A (mw cI a g d F) sz)) 0 0 (va_A (mw cI a g d F) sz) := by
  refine Met.ofW (cc := cX7_become) (maxL := 2) (ret := none) (by decide) rfl ?_
  intro p e s m args below meth c s₁ B hml hv
  obtain ⟨rfl, hsz, hP, hD0, hKK⟩ := hv
  have hx := B.exec
  have hb := B.bytes
  have hr := B.returns
  have hts := atoms_spec (ws := wsX7_become) B.pre
  have hown : s.vm.findClass RX7 = some m.cls := findClass_of_methodNamed B.named
  have hlocks := B.notSynchronized
  subst hsz
  have hK := hKK.1
  have hok := KM_ok D cI
  have hD := hD0.self (sz := s.heap.size)
  generalize hAe : va_A (mw cI a g d F) s.heap.size = A at hD ⊢
  have hi7 : ∀ w ∈ wsX70, w ∈ wsX7_become := fun w h => List.mem_cons_of_mem _ (List.mem_append_right _ h)
  have hA : ∀ q : Nat, s.heap.size ≤ q → A q := fun q h => by rw [← hAe]; exact Or.inr h
  have hS : va_S A s.heap s.heap [] := va_S.rf
  have hP : va_P D vwCl (mw cI a g d F) s.heap := hP
  have hl := lv_entry ([.ref ((a 0)), .int p_st]) (n := 2) (Nat.le_of_ble_eq_true rfl)
  rw [lg_entry_eq]
  generalize (lg_sl ([.ref ((a 0)), .int p_st]) ++ List.replicate (2 - (lg_sl ([.ref ((a 0)), .int p_st])).length) Slot.unset).toArray = ls at hl ⊢
  have hl : lv_has ls 2 [(0, .ref ((a 0))), (1, .int p_st)] := hl
  refine lv_aload_n hx hb dX7_become_0 rfl (lv_at hl 0 rfl) ?_
  refine lv_iload_n hx hb dX7_become_1 rfl (lv_at hl 1 rfl) ?_
  refine va_put (D := D) (ci := 7) (v := .int p_st) (ty := .int) (C := RX7) (T := TX7) (N := 41) hx hb hts hi7 tyX7 tyX7_ok nmX7 hown hK hP hD hS 0 rfl rfl 18 (by decide) (hts (.fieldLink RX7 109 "GuardedCallsModel" "state" "I") (by decide +kernel)) (fun _ h9 => h9) rfl (by decide +kernel) rfl rfl (Nat.le_of_ble_eq_true rfl) dX7_become_2 (fun H locs hP hD hS => ?_)
  have hP : va_P D vwCl (mw cI a (upd g 18 p_st) d F) H := hP
  have hD : va_D A (mw cI a (upd g 18 p_st) d F) := hD
  refine lv_aload_n hx hb dX7_become_5 rfl (lv_at hl 0 rfl) ?_
  refine lv_iconst (v := 0) hx hb dX7_become_6 (by decide) ?_
  refine va_put (D := D) (ci := 7) (v := .int 0) (ty := .int) (C := RX7) (T := TX7) (N := 41) hx hb hts hi7 tyX7 tyX7_ok nmX7 hown hK hP hD hS 0 rfl rfl 21 (by decide) (hts (.fieldLink RX7 112 "GuardedCallsModel" "count" "I") (by decide +kernel)) (fun _ h9 => h9) rfl (by decide +kernel) rfl rfl (Nat.le_of_ble_eq_true rfl) dX7_become_7 (fun H locs hP hD hS => ?_)
  have hP : va_P D vwCl (mw cI a (upd (upd g 18 p_st) 21 0) d F) H := hP
  have hD : va_D A (mw cI a (upd (upd g 18 p_st) 21 0) d F) := hD
  refine lv_aload_n hx hb dX7_become_10 rfl (lv_at hl 0 rfl) ?_
  refine lv_iconst (v := 0) hx hb dX7_become_11 (by decide) ?_
  refine va_put (D := D) (ci := 7) (v := .int 0) (ty := .int) (C := RX7) (T := TX7) (N := 41) hx hb hts hi7 tyX7 tyX7_ok nmX7 hown hK hP hD hS 0 rfl rfl 20 (by decide) (hts (.fieldLink RX7 115 "GuardedCallsModel" "trials" "I") (by decide +kernel)) (fun _ h9 => h9) rfl (by decide +kernel) rfl rfl (Nat.le_of_ble_eq_true rfl) dX7_become_12 (fun H locs hP hD hS => ?_)
  have hP : va_P D vwCl (mw cI a (upd (upd (upd g 18 p_st) 21 0) 20 0) d F) H := hP
  have hD : va_D A (mw cI a (upd (upd (upd g 18 p_st) 21 0) 20 0) d F) := hD
  exact W.vret hx hb hr (fun t ht hW => ⟨⟨(upd (upd (upd g 18 p_st) 21 0) 20 0, d, F), rfl, rfl, by rw [ht]; exact hP, hD⟩, hS.F ht⟩) hS.2.2 dX7_become_15
set_option maxHeartbeats 4000000 in
set_option maxRecDepth 100000 in
theorem c_X7_renew (l : Launch) (D : va_G) (cI : ClassId) (a : Nat → Nat) (sz : Nat) (g : Nat → Int32) (d : Nat → UInt64) (F : Nat → Nat → Int32) (h27 : ¬ g 27 = 0) : Met l yX7_renew wsX7_renew ({ frames := 0, cells := 0, slots := 0, locals := 0 }) (gP (KM D cI) D (mw cI a g d F) sz [.ref (a 0)]) (va_Qv (fun (u : SS) => (∀ k, k ≠ 30 → k ≠ 31 → u.1 k = g k) ∧ u.2.1 = d ∧ u.2.2 = F) (gB D (wfM cI a) (va_A (mw cI a g d F) sz)) (va_A (mw cI a g d F) sz)) 0 0 (va_A (mw cI a g d F) sz) := by
  refine Met.ofW (cc := cX7_renew) (maxL := 1) (ret := none) (by decide) rfl ?_
  intro p e s m args below meth c s₁ B hml hv
  obtain ⟨rfl, hsz, hP, hD0, hKK⟩ := hv
  have hx := B.exec
  have hb := B.bytes
  have hr := B.returns
  have hts := atoms_spec (ws := wsX7_renew) B.pre
  have hown : s.vm.findClass RX7 = some m.cls := findClass_of_methodNamed B.named
  have hlocks := B.notSynchronized
  subst hsz
  have hK := hKK.1
  have hok := KM_ok D cI
  have hD := hD0.self (sz := s.heap.size)
  generalize hAe : va_A (mw cI a g d F) s.heap.size = A at hD ⊢
  have hi7 : ∀ w ∈ wsX70, w ∈ wsX7_renew := fun w h => List.mem_cons_of_mem _ (List.mem_append_right _ h)
  have hA : ∀ q : Nat, s.heap.size ≤ q → A q := fun q h => by rw [← hAe]; exact Or.inr h
  have hS : va_S A s.heap s.heap [] := va_S.rf
  have hP : va_P D vwCl (mw cI a g d F) s.heap := hP
  have hl := lv_entry ([.ref ((a 0))]) (n := 1) (Nat.le_of_ble_eq_true rfl)
  rw [lg_entry_eq]
  generalize (lg_sl ([.ref ((a 0))]) ++ List.replicate (1 - (lg_sl ([.ref ((a 0))])).length) Slot.unset).toArray = ls at hl ⊢
  have hl : lv_has ls 1 [(0, .ref ((a 0)))] := hl
  refine lv_aload_n hx hb dX7_renew_0 rfl (lv_at hl 0 rfl) ?_
  refine lv_aload_n hx hb dX7_renew_1 rfl (lv_at hl 0 rfl) ?_
  refine va_get (D := D) (ci := 7) (v := .int ((g 1))) (C := RX7) (T := TX7) (N := 41) hx hb hts hi7 hown hK hP 0 rfl rfl 1 (by decide) (hts (.fieldLink RX7 102 "GuardedCallsModel" "clock" "I") (by decide +kernel)) (fun _ h9 => h9) rfl dX7_renew_2 ?_
  refine lv_aload_n hx hb dX7_renew_5 rfl (lv_at hl 0 rfl) ?_
  refine va_get (D := D) (ci := 7) (v := .int ((g 27))) (C := RX7) (T := TX7) (N := 41) hx hb hts hi7 hown hK hP 0 rfl rfl 27 (by decide) (hts (.fieldLink RX7 55 "GuardedCallsModel" "period" "I") (by decide +kernel)) (fun _ h9 => h9) rfl dX7_renew_6 ?_
  refine lv_idiv hx hb dX7_renew_9 (h27) ?_
  refine lv_topi (fun x1 e1 => ?_)
  refine va_put (D := D) (ci := 7) (v := .int x1) (ty := .int) (C := RX7) (T := TX7) (N := 41) hx hb hts hi7 tyX7 tyX7_ok nmX7 hown hK hP hD hS 0 rfl rfl 30 (by decide) (hts (.fieldLink RX7 141 "GuardedCallsModel" "cycle" "I") (by decide +kernel)) (fun _ h9 => h9) rfl (by decide +kernel) rfl rfl (Nat.le_of_ble_eq_true rfl) dX7_renew_10 (fun H locs hP hD hS => ?_)
  have hP : va_P D vwCl (mw cI a (upd g 30 x1) d F) H := hP
  have hD : va_D A (mw cI a (upd g 30 x1) d F) := hD
  refine lv_aload_n hx hb dX7_renew_13 rfl (lv_at hl 0 rfl) ?_
  refine lv_aload_n hx hb dX7_renew_14 rfl (lv_at hl 0 rfl) ?_
  refine va_get (D := D) (ci := 7) (v := .int ((g 28))) (C := RX7) (T := TX7) (N := 41) hx hb hts hi7 hown hK hP 0 rfl rfl 28 (by decide) (hts (.fieldLink RX7 58 "GuardedCallsModel" "limit" "I") (by decide +kernel)) (fun _ h9 => h9) rfl dX7_renew_15 ?_
  refine va_put (D := D) (ci := 7) (v := .int ((g 28))) (ty := .int) (C := RX7) (T := TX7) (N := 41) hx hb hts hi7 tyX7 tyX7_ok nmX7 hown hK hP hD hS 0 rfl rfl 31 (by decide) (hts (.fieldLink RX7 64 "GuardedCallsModel" "left" "I") (by decide +kernel)) (fun _ h9 => h9) rfl (by decide +kernel) rfl rfl (Nat.le_of_ble_eq_true rfl) dX7_renew_18 (fun H locs hP hD hS => ?_)
  have hP : va_P D vwCl (mw cI a (upd (upd g 30 x1) 31 ((g 28))) d F) H := hP
  have hD : va_D A (mw cI a (upd (upd g 30 x1) 31 ((g 28))) d F) := hD
  exact W.vret hx hb hr (fun t ht hW => ⟨⟨(upd (upd g 30 x1) 31 ((g 28)), d, F), rfl, ⟨fun k h1 h2 => by simp [upd, h1, h2], rfl, rfl⟩, by rw [ht]; exact hP, hD⟩, hS.F ht⟩) hS.2.2 dX7_renew_21
