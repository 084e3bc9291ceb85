set_option maxHeartbeats 4000000 in
set_option maxRecDepth 100000 in
theorem c0_X7_rate (l : Launch) (D : va_G) (cI : ClassId) (a : Nat → Nat) (sz : Nat) (g : Nat → Int32) (d : Nat → UInt64) (F : Nat → Nat → Int32) (p_k : Int32) (h21 : g 21 = 0) : Met l yX7_rate wsX7_rate ({ frames := 0, cells := 0, slots := 0, locals := 0 }) (gP (KM D cI) D (mw cI a g d F) sz [.ref (a 0), .int p_k]) (va_Qd (fun (r : UInt64) (u : SS) => r = 13830554455654793216 ∧ True) (gB D (wfM cI a) (va_A (mw cI a g d F) sz)) (va_A (mw cI a g d F) sz)) 0 0 (va_A (mw cI a g d F) sz) := by
  refine Met.ofW (cc := cX7_rate) (maxL := 2) (ret := (some .double)) (by decide) rfl ?_
  intro p e s m args below meth c s₁ B hml hv
  obtain ⟨rfl, hsz, hP, hD0, hKK⟩ := hv
  have hx := B.exec
  have hb := B.bytes
  have hr := B.returns
  have hts := atoms_spec (ws := wsX7_rate) B.pre
  have hown : s.vm.findClass RX7 = some m.cls := findClass_of_methodNamed B.named
  have hlocks := B.notSynchronized
  subst hsz
  have hK := hKK.1
  have hok := KM_ok D cI
  have hD := hD0.self (sz := s.heap.size)
  generalize hAe : va_A (mw cI a g d F) s.heap.size = A at hD ⊢
  have hi7 : ∀ w ∈ wsX70, w ∈ wsX7_rate := fun w h => List.mem_cons_of_mem _ (List.mem_append_right _ h)
  have hA : ∀ q : Nat, s.heap.size ≤ q → A q := fun q h => by rw [← hAe]; exact Or.inr h
  have hS : va_S A s.heap s.heap [] := va_S.rf
  have hP : va_P D vwCl (mw cI a g d F) s.heap := hP
  have hl := lv_entry ([.ref ((a 0)), .int p_k]) (n := 2) (Nat.le_of_ble_eq_true rfl)
  rw [lg_entry_eq]
  generalize (lg_sl ([.ref ((a 0)), .int p_k]) ++ List.replicate (2 - (lg_sl ([.ref ((a 0)), .int p_k])).length) Slot.unset).toArray = ls at hl ⊢
  have hl : lv_has ls 2 [(0, .ref ((a 0))), (1, .int p_k)] := hl
  refine lv_aload_n hx hb dX7_rate_0 rfl (lv_at hl 0 rfl) ?_
  refine va_get (D := D) (ci := 7) (v := .int ((g 21))) (C := RX7) (T := TX7) (N := 41) hx hb hts hi7 hown hK hP 0 rfl rfl 21 (by decide) (hts (.fieldLink RX7 112 "GuardedCallsModel" "count" "I") (by decide +kernel)) (fun _ h9 => h9) rfl dX7_rate_1 ?_
  refine lv_if_ne (tgt := 13) hx hb dX7_rate_4 (by decide) (fun c1 => ?_) (fun c1 => ?_)
  · exact absurd h21 c1
  · refine lv_ldc2d (v := 13830554455654793216) hx hb hown (hts (.constantDouble RX7 118 (13830554455654793216)) (by decide +kernel)) dX7_rate_7 ?_
    refine lv_goto (tgt := 29) hx hb dX7_rate_10 (by decide) ?_
    exact W.dret (v := 13830554455654793216) hx hb hr (fun t ht hW => ⟨⟨_, (g, d, F), rfl, ⟨rfl, trivial⟩, by rw [ht]; exact hP, hD⟩, hS.F ht⟩) hS.2.2 dX7_rate_29
set_option maxHeartbeats 4000000 in
set_option maxRecDepth 100000 in
theorem i_X7_failing (l : Launch) (D : va_G) (cI : ClassId) (a : Nat → Nat) (sz : Nat) : Met l yX7_failing wsX7_failing ({ frames := 1, cells := 0, slots := 0, locals := 21 }) (gP (KM D cI) D (mw cI a mgI mdI mFI) sz [.ref (a 0)]) (va_Qd (fun (r : UInt64) (u : SS) => r = 13830554455654793216) (gB D (wfM cI a) (va_A (mw cI a mgI mdI mFI) sz)) (va_A (mw cI a mgI mdI mFI) sz)) 0 0 (va_A (mw cI a mgI mdI mFI) sz) := by
  refine Met.ofW (cc := cX7_failing) (maxL := 1) (ret := (some .double)) (by decide) rfl ?_
  intro p e s m args below meth c s₁ B hml hv
  obtain ⟨rfl, hsz, hP, hD0, hKK⟩ := hv
  have hx := B.exec
  have hb := B.bytes
  have hr := B.returns
  have hts := atoms_spec (ws := wsX7_failing) B.pre
  have hown : s.vm.findClass RX7 = some m.cls := findClass_of_methodNamed B.named
  have hlocks := B.notSynchronized
  subst hsz
  have hK := hKK.1
  have hok := KM_ok D cI
  have hD := hD0.self (sz := s.heap.size)
  generalize hAe : va_A (mw cI a mgI mdI mFI) s.heap.size = A at hD ⊢
  have hi7 : ∀ w ∈ wsX70, w ∈ wsX7_failing := fun w h => List.mem_cons_of_mem _ (List.mem_append_right _ h)
  have hA : ∀ q : Nat, s.heap.size ≤ q → A q := fun q h => by rw [← hAe]; exact Or.inr h
  have hS : va_S A s.heap s.heap [] := va_S.rf
  have hP : va_P D vwCl (mw cI a mgI mdI mFI) s.heap := hP
  have hl := lv_entry ([.ref ((a 0))]) (n := 1) (Nat.le_of_ble_eq_true rfl)
  rw [lg_entry_eq]
  generalize (lg_sl ([.ref ((a 0))]) ++ List.replicate (1 - (lg_sl ([.ref ((a 0))])).length) Slot.unset).toArray = ls at hl ⊢
  have hl : lv_has ls 1 [(0, .ref ((a 0)))] := hl
  refine lv_aload_n hx hb dX7_failing_0 rfl (lv_at hl 0 rfl) ?_
  refine lv_iconst (v := 0) hx hb dX7_failing_1 (by decide) ?_
  refine va_put (D := D) (ci := 7) (v := .int 0) (ty := .int) (C := RX7) (T := TX7) (N := 41) hx hb hts hi7 tyX7 tyX7_ok nmX7 hown hK hP hD hS 0 rfl rfl 0 (by decide) (hts (.fieldLink RX7 96 "GuardedCallsModel" "thrown" "I") (by decide +kernel)) (fun _ h9 => h9) rfl (by decide +kernel) rfl rfl (Nat.le_of_ble_eq_true rfl) dX7_failing_2 (fun H locs hP hD hS => ?_)
  have hP : va_P D vwCl (mw cI a (upd mgI 0 0) mdI mFI) H := hP
  have hD : va_D A (mw cI a (upd mgI 0 0) mdI mFI) := hD
  refine lv_aload_n hx hb dX7_failing_5 rfl (lv_at hl 0 rfl) ?_
  refine lv_iconst (v := 1) hx hb dX7_failing_6 (by decide) ?_
  refine gc_vd (As := [.int 1]) (rest := []) (w0 := mw cI a (upd mgI 0 0) mdI mFI) (wc := mw cI a (upd mgI 0 0) mdI mFI) (wr := []) (wf := wfM cI a) ⟨hx, hb, hml, hown, hts⟩ hKK hok hP hD hS hA [0, 1, 2, 3, 4, 5, 6] [] rfl rfl (by decide) (c0_X7_rate l D cI a _ (upd mgI 0 0) mdI mFI 1 rfl) (cwV 1 hts gX7_failing_X7_rate rfl rfl rfl (by decide +kernel) ⟨Nat.le_of_ble_eq_true rfl, Nat.le_of_ble_eq_true rfl⟩) (va_recv hK hP (ci := 7) (q0 := 0) rfl rfl) rfl hl.1 rfl (Nat.le_of_ble_eq_true rfl) dX7_failing_7 ⟨Nat.le_of_ble_eq_true rfl, Nat.le_of_ble_eq_true rfl⟩ (fun r1 u1 H locs hw1 hP hD hS => ?_)
  obtain ⟨g1, d1, F1⟩ := u1
  obtain ⟨rfl, hw1⟩ := hw1
  have hP : va_P D vwCl (mw cI a g1 d1 F1) H := hP
  have hD : va_D A (mw cI a g1 d1 F1) := hD
  exact W.dret (v := 13830554455654793216) hx hb hr (fun t ht hW => ⟨⟨_, (g1, d1, F1), rfl, rfl, by rw [ht]; exact hP, hD⟩, hS.F ht⟩) hS.2.2 dX7_failing_10
set_option maxHeartbeats 4000000 in
set_option maxRecDepth 100000 in
theorem i_X7_sluggish (l : Launch) (D : va_G) (cI : ClassId) (a : Nat → Nat) (sz : Nat) : Met l yX7_sluggish wsX7_sluggish ({ frames := 1, cells := 0, slots := 0, locals := 21 }) (gP (KM D cI) D (mw cI a mgI mdI mFI) sz [.ref (a 0)]) (va_Qd (fun (r : UInt64) (u : SS) => r = 13830554455654793216) (gB D (wfM cI a) (va_A (mw cI a mgI mdI mFI) sz)) (va_A (mw cI a mgI mdI mFI) sz)) 0 0 (va_A (mw cI a mgI mdI mFI) sz) := by
  refine Met.ofW (cc := cX7_sluggish) (maxL := 1) (ret := (some .double)) (by decide) rfl ?_
  intro p e s m args below meth c s₁ B hml hv
  obtain ⟨rfl, hsz, hP, hD0, hKK⟩ := hv
  have hx := B.exec
  have hb := B.bytes
  have hr := B.returns
  have hts := atoms_spec (ws := wsX7_sluggish) B.pre
  have hown : s.vm.findClass RX7 = some m.cls := findClass_of_methodNamed B.named
  have hlocks := B.notSynchronized
  subst hsz
  have hK := hKK.1
  have hok := KM_ok D cI
  have hD := hD0.self (sz := s.heap.size)
  generalize hAe : va_A (mw cI a mgI mdI mFI) s.heap.size = A at hD ⊢
  have hi7 : ∀ w ∈ wsX70, w ∈ wsX7_sluggish := fun w h => List.mem_cons_of_mem _ (List.mem_append_right _ h)
  have hA : ∀ q : Nat, s.heap.size ≤ q → A q := fun q h => by rw [← hAe]; exact Or.inr h
  have hS : va_S A s.heap s.heap [] := va_S.rf
  have hP : va_P D vwCl (mw cI a mgI mdI mFI) s.heap := hP
  have hl := lv_entry ([.ref ((a 0))]) (n := 1) (Nat.le_of_ble_eq_true rfl)
  rw [lg_entry_eq]
  generalize (lg_sl ([.ref ((a 0))]) ++ List.replicate (1 - (lg_sl ([.ref ((a 0))])).length) Slot.unset).toArray = ls at hl ⊢
  have hl : lv_has ls 1 [(0, .ref ((a 0)))] := hl
  refine lv_aload_n hx hb dX7_sluggish_0 rfl (lv_at hl 0 rfl) ?_
  refine lv_iconst (v := 0) hx hb dX7_sluggish_1 (by decide) ?_
  refine va_put (D := D) (ci := 7) (v := .int 0) (ty := .int) (C := RX7) (T := TX7) (N := 41) hx hb hts hi7 tyX7 tyX7_ok nmX7 hown hK hP hD hS 0 rfl rfl 0 (by decide) (hts (.fieldLink RX7 96 "GuardedCallsModel" "thrown" "I") (by decide +kernel)) (fun _ h9 => h9) rfl (by decide +kernel) rfl rfl (Nat.le_of_ble_eq_true rfl) dX7_sluggish_2 (fun H locs hP hD hS => ?_)
  have hP : va_P D vwCl (mw cI a (upd mgI 0 0) mdI mFI) H := hP
  have hD : va_D A (mw cI a (upd mgI 0 0) mdI mFI) := hD
  refine lv_aload_n hx hb dX7_sluggish_5 rfl (lv_at hl 0 rfl) ?_
  refine lv_iconst (v := 2) hx hb dX7_sluggish_6 (by decide) ?_
  refine gc_vd (As := [.int 2]) (rest := []) (w0 := mw cI a (upd mgI 0 0) mdI mFI) (wc := mw cI a (upd mgI 0 0) mdI mFI) (wr := []) (wf := wfM cI a) ⟨hx, hb, hml, hown, hts⟩ hKK hok hP hD hS hA [0, 1, 2, 3, 4, 5, 6] [] rfl rfl (by decide) (c0_X7_rate l D cI a _ (upd mgI 0 0) mdI mFI 2 rfl) (cwV 1 hts gX7_sluggish_X7_rate rfl rfl rfl (by decide +kernel) ⟨Nat.le_of_ble_eq_true rfl, Nat.le_of_ble_eq_true rfl⟩) (va_recv hK hP (ci := 7) (q0 := 0) rfl rfl) rfl hl.1 rfl (Nat.le_of_ble_eq_true rfl) dX7_sluggish_7 ⟨Nat.le_of_ble_eq_true rfl, Nat.le_of_ble_eq_true rfl⟩ (fun r1 u1 H locs hw1 hP hD hS => ?_)
  obtain ⟨g1, d1, F1⟩ := u1
  obtain ⟨rfl, hw1⟩ := hw1
  have hP : va_P D vwCl (mw cI a g1 d1 F1) H := hP
  have hD : va_D A (mw cI a g1 d1 F1) := hD
  exact W.dret (v := 13830554455654793216) hx hb hr (fun t ht hW => ⟨⟨_, (g1, d1, F1), rfl, rfl, by rw [ht]; exact hP, hD⟩, hS.F ht⟩) hS.2.2 dX7_sluggish_10
set_option maxHeartbeats 4000000 in
set_option maxRecDepth 100000 in
theorem i_X7_tell (l : Launch) (D : va_G) (cI : ClassId) (a : Nat → Nat) (sz : Nat) (p_k : Int32) : Met l yX7_tell wsX7_tell ({ frames := 0, cells := 0, slots := 0, locals := 0 }) (gP (KM D cI) D (mw cI a mgI mdI mFI) sz [.ref (a 0), .int p_k]) (va_Qi (fun (r : Int32) (u : SS) => r = sp_tell0 p_k) (gB D (wfM cI a) (va_A (mw cI a mgI mdI mFI) sz)) (va_A (mw cI a mgI mdI mFI) sz)) 0 0 (va_A (mw cI a mgI mdI mFI) sz) := by
  refine Met.ofW (cc := cX7_tell) (maxL := 2) (ret := (some .int)) (by decide) rfl ?_
  intro p e s m args below meth c s₁ B hml hv
  obtain ⟨rfl, hsz, hP, hD0, hKK⟩ := hv
  have hx := B.exec
  have hb := B.bytes
  have hr := B.returns
  have hts := atoms_spec (ws := wsX7_tell) B.pre
  have hown : s.vm.findClass RX7 = some m.cls := findClass_of_methodNamed B.named
  have hlocks := B.notSynchronized
  subst hsz
  have hK := hKK.1
  have hok := KM_ok D cI
  have hD := hD0.self (sz := s.heap.size)
  generalize hAe : va_A (mw cI a mgI mdI mFI) s.heap.size = A at hD ⊢
  have hi7 : ∀ w ∈ wsX70, w ∈ wsX7_tell := fun w h => List.mem_cons_of_mem _ (List.mem_append_right _ h)
  have hA : ∀ q : Nat, s.heap.size ≤ q → A q := fun q h => by rw [← hAe]; exact Or.inr h
  have hS : va_S A s.heap s.heap [] := va_S.rf
  have hP : va_P D vwCl (mw cI a mgI mdI mFI) s.heap := hP
  have hl := lv_entry ([.ref ((a 0)), .int p_k]) (n := 2) (Nat.le_of_ble_eq_true rfl)
  rw [lg_entry_eq]
  generalize (lg_sl ([.ref ((a 0)), .int p_k]) ++ List.replicate (2 - (lg_sl ([.ref ((a 0)), .int p_k])).length) Slot.unset).toArray = ls at hl ⊢
  have hl : lv_has ls 2 [(0, .ref ((a 0))), (1, .int p_k)] := hl
  refine lv_aload_n hx hb dX7_tell_0 rfl (lv_at hl 0 rfl) ?_
  refine lv_iconst (v := 0) hx hb dX7_tell_1 (by decide) ?_
  refine va_put (D := D) (ci := 7) (v := .int 0) (ty := .int) (C := RX7) (T := TX7) (N := 41) hx hb hts hi7 tyX7 tyX7_ok nmX7 hown hK hP hD hS 0 rfl rfl 0 (by decide) (hts (.fieldLink RX7 96 "GuardedCallsModel" "thrown" "I") (by decide +kernel)) (fun _ h9 => h9) rfl (by decide +kernel) rfl rfl (Nat.le_of_ble_eq_true rfl) dX7_tell_2 (fun H locs hP hD hS => ?_)
  have hP : va_P D vwCl (mw cI a (upd mgI 0 0) mdI mFI) H := hP
  have hD : va_D A (mw cI a (upd mgI 0 0) mdI mFI) := hD
  refine lv_iload_n hx hb dX7_tell_5 rfl (lv_at hl 1 rfl) ?_
  refine lv_iconst (v := 4) hx hb dX7_tell_6 (by decide) ?_
  refine lv_icmp_ge (tgt := 59) hx hb dX7_tell_7 (by decide) (fun c1 => ?_) (fun c1 => ?_)
  · refine lv_iload_n hx hb dX7_tell_59 rfl (lv_at hl 1 rfl) ?_
    refine lv_iconst (v := 4) hx hb dX7_tell_60 (by decide) ?_
    refine lv_icmp_ne (tgt := 71) hx hb dX7_tell_61 (by decide) (fun c2 => ?_) (fun c2 => ?_)
    · refine lv_iload_n hx hb dX7_tell_71 rfl (lv_at hl 1 rfl) ?_
      refine lv_iconst (v := 5) hx hb dX7_tell_72 (by decide) ?_
      refine lv_icmp_ne (tgt := 83) hx hb dX7_tell_73 (by decide) (fun c3 => ?_) (fun c3 => ?_)
      · refine lv_iload_n hx hb dX7_tell_83 rfl (lv_at hl 1 rfl) ?_
        refine lv_bipush (v := 6) hx hb dX7_tell_84 (by decide) ?_
        refine lv_icmp_ne (tgt := 96) hx hb dX7_tell_86 (by decide) (fun c4 => ?_) (fun c4 => ?_)
        · refine lv_iload_n hx hb dX7_tell_96 rfl (lv_at hl 1 rfl) ?_
          refine lv_bipush (v := 7) hx hb dX7_tell_97 (by decide) ?_
          refine lv_icmp_ne (tgt := 109) hx hb dX7_tell_99 (by decide) (fun c5 => ?_) (fun c5 => ?_)
          · refine lv_iconst (v := (-1)) hx hb dX7_tell_109 (by decide) ?_
            exact W.iret (v := ((-1))) hx hb hr (fun t ht hW => ⟨⟨_, (upd mgI 0 0, mdI, mFI), rfl, by simp [sp_tell0, c1, c2, c3, c4, c5], by rw [ht]; exact hP, hD⟩, hS.F ht⟩) hS.2.2 dX7_tell_110
          · refine lv_aload_n hx hb dX7_tell_102 rfl (lv_at hl 0 rfl) ?_
            refine va_get (D := D) (ci := 7) (v := .int 0) (C := RX7) (T := TX7) (N := 41) hx hb hts hi7 hown hK hP 0 rfl rfl 1 (by decide) (hts (.fieldLink RX7 102 "GuardedCallsModel" "clock" "I") (by decide +kernel)) (fun _ h9 => h9) rfl dX7_tell_103 ?_
            refine lv_goto (tgt := 110) hx hb dX7_tell_106 (by decide) ?_
            exact W.iret (v := 0) hx hb hr (fun t ht hW => ⟨⟨_, (upd mgI 0 0, mdI, mFI), rfl, by simp [sp_tell0, c1, c2, c3, c4, c5], by rw [ht]; exact hP, hD⟩, hS.F ht⟩) hS.2.2 dX7_tell_110
        · refine lv_aload_n hx hb dX7_tell_89 rfl (lv_at hl 0 rfl) ?_
          refine va_get (D := D) (ci := 7) (v := .int 0) (C := RX7) (T := TX7) (N := 41) hx hb hts hi7 hown hK hP 0 rfl rfl 5 (by decide) (hts (.fieldLink RX7 154 "GuardedCallsModel" "calls" "I") (by decide +kernel)) (fun _ h9 => h9) rfl dX7_tell_90 ?_
          refine lv_goto (tgt := 110) hx hb dX7_tell_93 (by decide) ?_
          exact W.iret (v := 0) hx hb hr (fun t ht hW => ⟨⟨_, (upd mgI 0 0, mdI, mFI), rfl, by simp [sp_tell0, c1, c2, c3, c4], by rw [ht]; exact hP, hD⟩, hS.F ht⟩) hS.2.2 dX7_tell_110
      · refine lv_aload_n hx hb dX7_tell_76 rfl (lv_at hl 0 rfl) ?_
        refine va_get (D := D) (ci := 7) (v := .int 0) (C := RX7) (T := TX7) (N := 41) hx hb hts hi7 hown hK hP 0 rfl rfl 7 (by decide) (hts (.fieldLink RX7 160 "GuardedCallsModel" "outcomes" "I") (by decide +kernel)) (fun _ h9 => h9) rfl dX7_tell_77 ?_
        refine lv_goto (tgt := 110) hx hb dX7_tell_80 (by decide) ?_
        exact W.iret (v := 0) hx hb hr (fun t ht hW => ⟨⟨_, (upd mgI 0 0, mdI, mFI), rfl, by simp [sp_tell0, c1, c2, c3], by rw [ht]; exact hP, hD⟩, hS.F ht⟩) hS.2.2 dX7_tell_110
    · refine lv_aload_n hx hb dX7_tell_64 rfl (lv_at hl 0 rfl) ?_
      refine va_get (D := D) (ci := 7) (v := .int 2) (C := RX7) (T := TX7) (N := 41) hx hb hts hi7 hown hK hP 0 rfl rfl 31 (by decide) (hts (.fieldLink RX7 64 "GuardedCallsModel" "left" "I") (by decide +kernel)) (fun _ h9 => h9) rfl dX7_tell_65 ?_
      refine lv_goto (tgt := 110) hx hb dX7_tell_68 (by decide) ?_
      exact W.iret (v := 2) hx hb hr (fun t ht hW => ⟨⟨_, (upd mgI 0 0, mdI, mFI), rfl, by simp [sp_tell0, c1, c2], by rw [ht]; exact hP, hD⟩, hS.F ht⟩) hS.2.2 dX7_tell_110
  · refine lv_iload_n hx hb dX7_tell_10 rfl (lv_at hl 1 rfl) ?_
    refine lv_if_ne (tgt := 21) hx hb dX7_tell_11 (by decide) (fun c6 => ?_) (fun c6 => ?_)
    · refine lv_iload_n hx hb dX7_tell_21 rfl (lv_at hl 1 rfl) ?_
      refine lv_iconst (v := 1) hx hb dX7_tell_22 (by decide) ?_
      refine lv_icmp_ne (tgt := 33) hx hb dX7_tell_23 (by decide) (fun c7 => ?_) (fun c7 => ?_)
      · refine lv_iload_n hx hb dX7_tell_33 rfl (lv_at hl 1 rfl) ?_
        refine lv_iconst (v := 2) hx hb dX7_tell_34 (by decide) ?_
        refine lv_icmp_ne (tgt := 45) hx hb dX7_tell_35 (by decide) (fun c8 => ?_) (fun c8 => ?_)
        · refine lv_iload_n hx hb dX7_tell_45 rfl (lv_at hl 1 rfl) ?_
          refine lv_iconst (v := 3) hx hb dX7_tell_46 (by decide) ?_
          refine lv_icmp_ne (tgt := 57) hx hb dX7_tell_47 (by decide) (fun c9 => ?_) (fun c9 => ?_)
          · refine lv_iconst (v := (-1)) hx hb dX7_tell_57 (by decide) ?_
            exact W.iret (v := ((-1))) hx hb hr (fun t ht hW => ⟨⟨_, (upd mgI 0 0, mdI, mFI), rfl, by simp [sp_tell0, c1, c6, c7, c8, c9], by rw [ht]; exact hP, hD⟩, hS.F ht⟩) hS.2.2 dX7_tell_58
          · refine lv_aload_n hx hb dX7_tell_50 rfl (lv_at hl 0 rfl) ?_
            refine va_get (D := D) (ci := 7) (v := .int 0) (C := RX7) (T := TX7) (N := 41) hx hb hts hi7 hown hK hP 0 rfl rfl 26 (by decide) (hts (.fieldLink RX7 167 "GuardedCallsModel" "used" "I") (by decide +kernel)) (fun _ h9 => h9) rfl dX7_tell_51 ?_
            refine lv_goto (tgt := 58) hx hb dX7_tell_54 (by decide) ?_
            exact W.iret (v := 0) hx hb hr (fun t ht hW => ⟨⟨_, (upd mgI 0 0, mdI, mFI), rfl, by simp [sp_tell0, c1, c6, c7, c8, c9], by rw [ht]; exact hP, hD⟩, hS.F ht⟩) hS.2.2 dX7_tell_58
        · refine lv_aload_n hx hb dX7_tell_38 rfl (lv_at hl 0 rfl) ?_
          refine va_get (D := D) (ci := 7) (v := .int 0) (C := RX7) (T := TX7) (N := 41) hx hb hts hi7 hown hK hP 0 rfl rfl 20 (by decide) (hts (.fieldLink RX7 115 "GuardedCallsModel" "trials" "I") (by decide +kernel)) (fun _ h9 => h9) rfl dX7_tell_39 ?_
          refine lv_goto (tgt := 58) hx hb dX7_tell_42 (by decide) ?_
          exact W.iret (v := 0) hx hb hr (fun t ht hW => ⟨⟨_, (upd mgI 0 0, mdI, mFI), rfl, by simp [sp_tell0, c1, c6, c7, c8], by rw [ht]; exact hP, hD⟩, hS.F ht⟩) hS.2.2 dX7_tell_58
      · refine lv_aload_n hx hb dX7_tell_26 rfl (lv_at hl 0 rfl) ?_
        refine va_get (D := D) (ci := 7) (v := .int 0) (C := RX7) (T := TX7) (N := 41) hx hb hts hi7 hown hK hP 0 rfl rfl 21 (by decide) (hts (.fieldLink RX7 112 "GuardedCallsModel" "count" "I") (by decide +kernel)) (fun _ h9 => h9) rfl dX7_tell_27 ?_
        refine lv_goto (tgt := 58) hx hb dX7_tell_30 (by decide) ?_
        exact W.iret (v := 0) hx hb hr (fun t ht hW => ⟨⟨_, (upd mgI 0 0, mdI, mFI), rfl, by simp [sp_tell0, c1, c6, c7], by rw [ht]; exact hP, hD⟩, hS.F ht⟩) hS.2.2 dX7_tell_58
    · refine lv_aload_n hx hb dX7_tell_14 rfl (lv_at hl 0 rfl) ?_
      refine va_get (D := D) (ci := 7) (v := .int 0) (C := RX7) (T := TX7) (N := 41) hx hb hts hi7 hown hK hP 0 rfl rfl 18 (by decide) (hts (.fieldLink RX7 109 "GuardedCallsModel" "state" "I") (by decide +kernel)) (fun _ h9 => h9) rfl dX7_tell_15 ?_
      refine lv_goto (tgt := 58) hx hb dX7_tell_18 (by decide) ?_
      exact W.iret (v := 0) hx hb hr (fun t ht hW => ⟨⟨_, (upd mgI 0 0, mdI, mFI), rfl, by simp [sp_tell0, c1, c6], by rw [ht]; exact hP, hD⟩, hS.F ht⟩) hS.2.2 dX7_tell_58
set_option maxHeartbeats 4000000 in
set_option maxRecDepth 100000 in
theorem i_X7_event (l : Launch) (D : va_G) (cI : ClassId) (a : Nat → Nat) (sz : Nat) (p_k : Int32) : Met l yX7_event wsX7_event ({ frames := 1, cells := 0, slots := 0, locals := 22 }) (gP (KM D cI) D (mw cI a mgI mdI mFI) sz [.ref (a 0), .int p_k]) (va_Qi (fun (r : Int32) (u : SS) => r = -1) (gB D (wfM cI a) (va_A (mw cI a mgI mdI mFI) sz)) (va_A (mw cI a mgI mdI mFI) sz)) 0 0 (va_A (mw cI a mgI mdI mFI) sz) := by
  refine Met.ofW (cc := cX7_event) (maxL := 2) (ret := (some .int)) (by decide) rfl ?_
  intro p e s m args below meth c s₁ B hml hv
  obtain ⟨rfl, hsz, hP, hD0, hKK⟩ := hv
  have hx := B.exec
  have hb := B.bytes
  have hr := B.returns
  have hts := atoms_spec (ws := wsX7_event) B.pre
  have hown : s.vm.findClass RX7 = some m.cls := findClass_of_methodNamed B.named
  have hlocks := B.notSynchronized
  subst hsz
  have hK := hKK.1
  have hok := KM_ok D cI
  have hD := hD0.self (sz := s.heap.size)
  generalize hAe : va_A (mw cI a mgI mdI mFI) s.heap.size = A at hD ⊢
  have hi7 : ∀ w ∈ wsX70, w ∈ wsX7_event := fun w h => List.mem_cons_of_mem _ (List.mem_append_right _ h)
  have hA : ∀ q : Nat, s.heap.size ≤ q → A q := fun q h => by rw [← hAe]; exact Or.inr h
  have hS : va_S A s.heap s.heap [] := va_S.rf
  have hP : va_P D vwCl (mw cI a mgI mdI mFI) s.heap := hP
  have hl := lv_entry ([.ref ((a 0)), .int p_k]) (n := 2) (Nat.le_of_ble_eq_true rfl)
  rw [lg_entry_eq]
  generalize (lg_sl ([.ref ((a 0)), .int p_k]) ++ List.replicate (2 - (lg_sl ([.ref ((a 0)), .int p_k])).length) Slot.unset).toArray = ls at hl ⊢
  have hl : lv_has ls 2 [(0, .ref ((a 0))), (1, .int p_k)] := hl
  refine lv_aload_n hx hb dX7_event_0 rfl (lv_at hl 0 rfl) ?_
  refine lv_iconst (v := 0) hx hb dX7_event_1 (by decide) ?_
  refine va_put (D := D) (ci := 7) (v := .int 0) (ty := .int) (C := RX7) (T := TX7) (N := 41) hx hb hts hi7 tyX7 tyX7_ok nmX7 hown hK hP hD hS 0 rfl rfl 0 (by decide) (hts (.fieldLink RX7 96 "GuardedCallsModel" "thrown" "I") (by decide +kernel)) (fun _ h9 => h9) rfl (by decide +kernel) rfl rfl (Nat.le_of_ble_eq_true rfl) dX7_event_2 (fun H locs hP hD hS => ?_)
  have hP : va_P D vwCl (mw cI a (upd mgI 0 0) mdI mFI) H := hP
  have hD : va_D A (mw cI a (upd mgI 0 0) mdI mFI) := hD
  refine lv_iload_n hx hb dX7_event_5 rfl (lv_at hl 1 rfl) ?_
  refine lv_iconst (v := 0) hx hb dX7_event_6 (by decide) ?_
  refine lv_aload_n hx hb dX7_event_7 rfl (lv_at hl 0 rfl) ?_
  refine va_get (D := D) (ci := 7) (v := .int 0) (C := RX7) (T := TX7) (N := 41) hx hb hts hi7 hown hK hP 0 rfl rfl 39 (by decide) (hts (.fieldLink RX7 99 "GuardedCallsModel" "many" "I") (by decide +kernel)) (fun _ h9 => h9) rfl dX7_event_8 ?_
  refine lv_iconst (v := 1) hx hb dX7_event_11 (by decide) ?_
  refine lv_isub hx hb dX7_event_12 ?_
  refine lv_topi (fun x1 e1 => ?_)
  obtain rfl : x1 = (-1) := e1.trans (by decide)
  refine gc_si (As := [.int p_k, .int 0, .int ((-1))]) (rest := []) ⟨hx, hb, hml, hown, hts⟩ hP hD hS hA (c_X7_in l _ p_k 0 ((-1))) (va_cwS 3 hts gX7_event_X7_in rfl rfl rfl (by decide +kernel) ⟨Nat.le_of_ble_eq_true rfl, Nat.le_of_ble_eq_true rfl⟩) rfl hl.1 rfl (Nat.le_of_ble_eq_true rfl) dX7_event_13 ⟨Nat.le_of_ble_eq_true rfl, Nat.le_of_ble_eq_true rfl⟩ (fun r2 H locs hw2 hP hS => ?_)
  subst hw2
  refine lv_if_eq (tgt := 28) hx hb dX7_event_16 (by decide) (fun c3 => ?_) (fun c3 => ?_)
  · refine lv_iconst (v := (-1)) hx hb dX7_event_28 (by decide) ?_
    exact W.iret (v := ((-1))) hx hb hr (fun t ht hW => ⟨⟨_, (upd mgI 0 0, mdI, mFI), rfl, rfl, by rw [ht]; exact hP, hD⟩, hS.F ht⟩) hS.2.2 dX7_event_29
  · exact absurd (bw_empty p_k) c3
