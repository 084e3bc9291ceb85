set_option maxHeartbeats 4000000 in
set_option maxRecDepth 100000 in
theorem i_X7_thrown (l : Launch) (D : va_G) (cI : ClassId) (a : Nat → Nat) (sz : Nat) : Met l yX7_thrown wsX7_thrown ({ frames := 0, cells := 0, slots := 0, locals := 0 }) (gP (KM D cI) D (mw cI a mgI mdI mFI) sz [.ref (a 0)]) (va_Qi (fun (r : Int32) (u : SS) => r = 0) (gB D (wfM cI a) (va_A (mw cI a mgI mdI mFI) sz)) (va_A (mw cI a mgI mdI mFI) sz)) 0 0 (va_A (mw cI a mgI mdI mFI) sz) := by
  refine Met.ofW (cc := cX7_thrown) (maxL := 1) (ret := (some .int)) (by decide) rfl ?_
  intro p e s m args below meth c s₁ B hml hv
  obtain ⟨rfl, hsz, hP, hD0, hKK⟩ := hv
  have hx := B.exec
  have hb := B.bytes
  have hr := B.returns
  have hts := atoms_spec (ws := wsX7_thrown) B.pre
  have hown : s.vm.findClass RX7 = some m.cls := findClass_of_methodNamed B.named
  have hlocks := B.notSynchronized
  subst hsz
  have hK := hKK.1
  have hok := KM_ok D cI
  have hD := hD0.self (sz := s.heap.size)
  generalize hAe : va_A (mw cI a mgI mdI mFI) s.heap.size = A at hD ⊢
  have hi7 : ∀ w ∈ wsX70, w ∈ wsX7_thrown := fun w h => List.mem_cons_of_mem _ (List.mem_append_right _ h)
  have hA : ∀ q : Nat, s.heap.size ≤ q → A q := fun q h => by rw [← hAe]; exact Or.inr h
  have hS : va_S A s.heap s.heap [] := va_S.rf
  have hP : va_P D vwCl (mw cI a mgI mdI mFI) s.heap := hP
  have hl := lv_entry ([.ref ((a 0))]) (n := 1) (Nat.le_of_ble_eq_true rfl)
  rw [lg_entry_eq]
  generalize (lg_sl ([.ref ((a 0))]) ++ List.replicate (1 - (lg_sl ([.ref ((a 0))])).length) Slot.unset).toArray = ls at hl ⊢
  have hl : lv_has ls 1 [(0, .ref ((a 0)))] := hl
  refine lv_aload_n hx hb dX7_thrown_0 rfl (lv_at hl 0 rfl) ?_
  refine va_get (D := D) (ci := 7) (v := .int 0) (C := RX7) (T := TX7) (N := 41) hx hb hts hi7 hown hK hP 0 rfl rfl 0 (by decide) (hts (.fieldLink RX7 96 "GuardedCallsModel" "thrown" "I") (by decide +kernel)) (fun _ h9 => h9) rfl dX7_thrown_1 ?_
  exact W.iret (v := 0) hx hb hr (fun t ht hW => ⟨⟨_, (mgI, mdI, mFI), rfl, rfl, by rw [ht]; exact hP, hD⟩, hS.F ht⟩) hS.2.2 dX7_thrown_4
set_option maxHeartbeats 4000000 in
set_option maxRecDepth 100000 in
theorem i_X7_breaker (l : Launch) (D : va_G) (cI : ClassId) (a : Nat → Nat) (sz : Nat) (p_s : Int32) (p_l : Int32) (p_w : Int32) (p_t : Int32) : Met l yX7_breaker wsX7_breaker ({ frames := 1, cells := 0, slots := 0, locals := 22 }) (gP (KM D cI) D (mw cI a mgI mdI mFI) sz [.ref (a 0), .int p_s, .int p_l, .int p_w, .int p_t]) (va_Qi (fun (r : Int32) (u : SS) => r = sp_breaker p_s p_l p_w p_t) (gB D (wfM cI a) (va_A (mw cI a mgI mdI mFI) sz)) (va_A (mw cI a mgI mdI mFI) sz)) 0 0 (va_A (mw cI a mgI mdI mFI) sz) := by
  refine Met.ofW (cc := cX7_breaker) (maxL := 5) (ret := (some .boolean)) (by decide) rfl ?_
  intro p e s m args below meth c s₁ B hml hv
  obtain ⟨rfl, hsz, hP, hD0, hKK⟩ := hv
  have hx := B.exec
  have hb := B.bytes
  have hr := B.returns
  have hts := atoms_spec (ws := wsX7_breaker) B.pre
  have hown : s.vm.findClass RX7 = some m.cls := findClass_of_methodNamed B.named
  have hlocks := B.notSynchronized
  subst hsz
  have hK := hKK.1
  have hok := KM_ok D cI
  have hD := hD0.self (sz := s.heap.size)
  generalize hAe : va_A (mw cI a mgI mdI mFI) s.heap.size = A at hD ⊢
  have hi7 : ∀ w ∈ wsX70, w ∈ wsX7_breaker := fun w h => List.mem_cons_of_mem _ (List.mem_append_right _ h)
  have hA : ∀ q : Nat, s.heap.size ≤ q → A q := fun q h => by rw [← hAe]; exact Or.inr h
  have hS : va_S A s.heap s.heap [] := va_S.rf
  have hP : va_P D vwCl (mw cI a mgI mdI mFI) s.heap := hP
  have hl := lv_entry ([.ref ((a 0)), .int p_s, .int p_l, .int p_w, .int p_t]) (n := 5) (Nat.le_of_ble_eq_true rfl)
  rw [lg_entry_eq]
  generalize (lg_sl ([.ref ((a 0)), .int p_s, .int p_l, .int p_w, .int p_t]) ++ List.replicate (5 - (lg_sl ([.ref ((a 0)), .int p_s, .int p_l, .int p_w, .int p_t])).length) Slot.unset).toArray = ls at hl ⊢
  have hl : lv_has ls 5 [(0, .ref ((a 0))), (1, .int p_s), (2, .int p_l), (3, .int p_w), (4, .int p_t)] := hl
  refine lv_aload_n hx hb dX7_breaker_0 rfl (lv_at hl 0 rfl) ?_
  refine lv_iconst (v := 0) hx hb dX7_breaker_1 (by decide) ?_
  refine va_put (D := D) (ci := 7) (v := .int 0) (ty := .int) (C := RX7) (T := TX7) (N := 41) hx hb hts hi7 tyX7 tyX7_ok nmX7 hown hK hP hD hS 0 rfl rfl 0 (by decide) (hts (.fieldLink RX7 96 "GuardedCallsModel" "thrown" "I") (by decide +kernel)) (fun _ h9 => h9) rfl (by decide +kernel) rfl rfl (Nat.le_of_ble_eq_true rfl) dX7_breaker_2 (fun H locs hP hD hS => ?_)
  have hP : va_P D vwCl (mw cI a (upd mgI 0 0) mdI mFI) H := hP
  have hD : va_D A (mw cI a (upd mgI 0 0) mdI mFI) := hD
  refine lv_iload_n hx hb dX7_breaker_5 rfl (lv_at hl 1 rfl) ?_
  refine lv_iconst (v := 1) hx hb dX7_breaker_6 (by decide) ?_
  refine lv_bipush (v := 8) hx hb dX7_breaker_7 (by decide) ?_
  refine gc_si (As := [.int p_s, .int 1, .int 8]) (rest := []) ⟨hx, hb, hml, hown, hts⟩ hP hD hS hA (c_X7_in l _ p_s 1 8) (va_cwS 3 hts gX7_breaker_X7_in rfl rfl rfl (by decide +kernel) ⟨Nat.le_of_ble_eq_true rfl, Nat.le_of_ble_eq_true rfl⟩) rfl hl.1 rfl (Nat.le_of_ble_eq_true rfl) dX7_breaker_9 ⟨Nat.le_of_ble_eq_true rfl, Nat.le_of_ble_eq_true rfl⟩ (fun r1 H locs hw1 hP hS => ?_)
  subst hw1
  refine lv_if_eq (tgt := 44) hx hb dX7_breaker_12 (by decide) (fun c2 => ?_) (fun c2 => ?_)
  · refine lv_iconst (v := 0) hx hb dX7_breaker_44 (by decide) ?_
    exact W.zret (v := 0) hx hb hr (rfl) (fun t ht hW => ⟨⟨_, (upd mgI 0 0, mdI, mFI), rfl, by simp [sp_breaker, c2], by rw [ht]; exact hP, hD⟩, hS.F ht⟩) hS.2.2 dX7_breaker_45
  · refine lv_iload_n hx hb dX7_breaker_15 rfl (lv_at hl 2 rfl) ?_
    refine lv_iconst (v := 1) hx hb dX7_breaker_16 (by decide) ?_
    refine lv_iload_n hx hb dX7_breaker_17 rfl (lv_at hl 1 rfl) ?_
    refine gc_si (As := [.int p_l, .int 1, .int p_s]) (rest := []) ⟨hx, hb, hml, hown, hts⟩ hP hD hS hA (c_X7_in l _ p_l 1 p_s) (va_cwS 3 hts gX7_breaker_X7_in rfl rfl rfl (by decide +kernel) ⟨Nat.le_of_ble_eq_true rfl, Nat.le_of_ble_eq_true rfl⟩) rfl hl.1 rfl (Nat.le_of_ble_eq_true rfl) dX7_breaker_18 ⟨Nat.le_of_ble_eq_true rfl, Nat.le_of_ble_eq_true rfl⟩ (fun r3 H locs hw3 hP hS => ?_)
    subst hw3
    refine lv_if_eq (tgt := 44) hx hb dX7_breaker_21 (by decide) (fun c4 => ?_) (fun c4 => ?_)
    · refine lv_iconst (v := 0) hx hb dX7_breaker_44 (by decide) ?_
      exact W.zret (v := 0) hx hb hr (rfl) (fun t ht hW => ⟨⟨_, (upd mgI 0 0, mdI, mFI), rfl, by simp [sp_breaker, c2, c4], by rw [ht]; exact hP, hD⟩, hS.F ht⟩) hS.2.2 dX7_breaker_45
    · refine lv_iload_n hx hb dX7_breaker_24 rfl (lv_at hl 3 rfl) ?_
      refine lv_iconst (v := 0) hx hb dX7_breaker_25 (by decide) ?_
      refine lv_bipush (v := 100) hx hb dX7_breaker_26 (by decide) ?_
      refine gc_si (As := [.int p_w, .int 0, .int 100]) (rest := []) ⟨hx, hb, hml, hown, hts⟩ hP hD hS hA (c_X7_in l _ p_w 0 100) (va_cwS 3 hts gX7_breaker_X7_in rfl rfl rfl (by decide +kernel) ⟨Nat.le_of_ble_eq_true rfl, Nat.le_of_ble_eq_true rfl⟩) rfl hl.1 rfl (Nat.le_of_ble_eq_true rfl) dX7_breaker_28 ⟨Nat.le_of_ble_eq_true rfl, Nat.le_of_ble_eq_true rfl⟩ (fun r5 H locs hw5 hP hS => ?_)
      subst hw5
      refine lv_if_eq (tgt := 44) hx hb dX7_breaker_31 (by decide) (fun c6 => ?_) (fun c6 => ?_)
      · refine lv_iconst (v := 0) hx hb dX7_breaker_44 (by decide) ?_
        exact W.zret (v := 0) hx hb hr (rfl) (fun t ht hW => ⟨⟨_, (upd mgI 0 0, mdI, mFI), rfl, by simp [sp_breaker, c2, c4, c6], by rw [ht]; exact hP, hD⟩, hS.F ht⟩) hS.2.2 dX7_breaker_45
      · refine lv_iload hx hb dX7_breaker_34 (lv_at hl 4 rfl) ?_
        refine lv_iconst (v := 1) hx hb dX7_breaker_36 (by decide) ?_
        refine lv_iconst (v := 4) hx hb dX7_breaker_37 (by decide) ?_
        refine gc_si (As := [.int p_t, .int 1, .int 4]) (rest := []) ⟨hx, hb, hml, hown, hts⟩ hP hD hS hA (c_X7_in l _ p_t 1 4) (va_cwS 3 hts gX7_breaker_X7_in rfl rfl rfl (by decide +kernel) ⟨Nat.le_of_ble_eq_true rfl, Nat.le_of_ble_eq_true rfl⟩) rfl hl.1 rfl (Nat.le_of_ble_eq_true rfl) dX7_breaker_38 ⟨Nat.le_of_ble_eq_true rfl, Nat.le_of_ble_eq_true rfl⟩ (fun r7 H locs hw7 hP hS => ?_)
        subst hw7
        refine lv_if_ne (tgt := 46) hx hb dX7_breaker_41 (by decide) (fun c8 => ?_) (fun c8 => ?_)
        · refine lv_aload_n hx hb dX7_breaker_46 rfl (lv_at hl 0 rfl) ?_
          refine lv_iload_n hx hb dX7_breaker_47 rfl (lv_at hl 1 rfl) ?_
          refine va_put (D := D) (ci := 7) (v := .int p_s) (ty := .int) (C := RX7) (T := TX7) (N := 41) hx hb hts hi7 tyX7 tyX7_ok nmX7 hown hK hP hD hS 0 rfl rfl 11 (by decide) (hts (.fieldLink RX7 22 "GuardedCallsModel" "size" "I") (by decide +kernel)) (fun _ h9 => h9) rfl (by decide +kernel) rfl rfl (Nat.le_of_ble_eq_true rfl) dX7_breaker_48 (fun H locs hP hD hS => ?_)
          have hP : va_P D vwCl (mw cI a (upd (upd mgI 0 0) 11 p_s) mdI mFI) H := hP
          have hD : va_D A (mw cI a (upd (upd mgI 0 0) 11 p_s) mdI mFI) := hD
          refine lv_aload_n hx hb dX7_breaker_51 rfl (lv_at hl 0 rfl) ?_
          refine lv_iload_n hx hb dX7_breaker_52 rfl (lv_at hl 2 rfl) ?_
          refine va_put (D := D) (ci := 7) (v := .int p_l) (ty := .int) (C := RX7) (T := TX7) (N := 41) hx hb hts hi7 tyX7 tyX7_ok nmX7 hown hK hP hD hS 0 rfl rfl 12 (by decide) (hts (.fieldLink RX7 26 "GuardedCallsModel" "least" "I") (by decide +kernel)) (fun _ h9 => h9) rfl (by decide +kernel) rfl rfl (Nat.le_of_ble_eq_true rfl) dX7_breaker_53 (fun H locs hP hD hS => ?_)
          have hP : va_P D vwCl (mw cI a (upd (upd (upd mgI 0 0) 11 p_s) 12 p_l) mdI mFI) H := hP
          have hD : va_D A (mw cI a (upd (upd (upd mgI 0 0) 11 p_s) 12 p_l) mdI mFI) := hD
          refine lv_aload_n hx hb dX7_breaker_56 rfl (lv_at hl 0 rfl) ?_
          refine lv_iload_n hx hb dX7_breaker_57 rfl (lv_at hl 3 rfl) ?_
          refine va_put (D := D) (ci := 7) (v := .int p_w) (ty := .int) (C := RX7) (T := TX7) (N := 41) hx hb hts hi7 tyX7 tyX7_ok nmX7 hown hK hP hD hS 0 rfl rfl 13 (by decide) (hts (.fieldLink RX7 29 "GuardedCallsModel" "rest" "I") (by decide +kernel)) (fun _ h9 => h9) rfl (by decide +kernel) rfl rfl (Nat.le_of_ble_eq_true rfl) dX7_breaker_58 (fun H locs hP hD hS => ?_)
          have hP : va_P D vwCl (mw cI a (upd (upd (upd (upd mgI 0 0) 11 p_s) 12 p_l) 13 p_w) mdI mFI) H := hP
          have hD : va_D A (mw cI a (upd (upd (upd (upd mgI 0 0) 11 p_s) 12 p_l) 13 p_w) mdI mFI) := hD
          refine lv_aload_n hx hb dX7_breaker_61 rfl (lv_at hl 0 rfl) ?_
          refine lv_iload hx hb dX7_breaker_62 (lv_at hl 4 rfl) ?_
          refine va_put (D := D) (ci := 7) (v := .int p_t) (ty := .int) (C := RX7) (T := TX7) (N := 41) hx hb hts hi7 tyX7 tyX7_ok nmX7 hown hK hP hD hS 0 rfl rfl 14 (by decide) (hts (.fieldLink RX7 32 "GuardedCallsModel" "most" "I") (by decide +kernel)) (fun _ h9 => h9) rfl (by decide +kernel) rfl rfl (Nat.le_of_ble_eq_true rfl) dX7_breaker_64 (fun H locs hP hD hS => ?_)
          have hP : va_P D vwCl (mw cI a (upd (upd (upd (upd (upd mgI 0 0) 11 p_s) 12 p_l) 13 p_w) 14 p_t) mdI mFI) H := hP
          have hD : va_D A (mw cI a (upd (upd (upd (upd (upd mgI 0 0) 11 p_s) 12 p_l) 13 p_w) 14 p_t) mdI mFI) := hD
          refine lv_aload_n hx hb dX7_breaker_67 rfl (lv_at hl 0 rfl) ?_
          refine lv_iconst (v := 0) hx hb dX7_breaker_68 (by decide) ?_
          refine gc_vv (As := [.int 0]) (rest := []) (w0 := mw cI a (upd (upd (upd (upd (upd mgI 0 0) 11 p_s) 12 p_l) 13 p_w) 14 p_t) mdI mFI) (wc := mw cI a (upd (upd (upd (upd (upd mgI 0 0) 11 p_s) 12 p_l) 13 p_w) 14 p_t) mdI mFI) (wr := []) (wf := wfM cI a) ⟨hx, hb, hml, hown, hts⟩ hKK hok hP hD hS hA [0, 1, 2, 3, 4, 5, 6] [] rfl rfl (by decide) (c_X7_become l D cI a _ (upd (upd (upd (upd (upd mgI 0 0) 11 p_s) 12 p_l) 13 p_w) 14 p_t) mdI mFI 0) (cwV 1 hts gX7_breaker_X7_become rfl rfl rfl (by decide +kernel) ⟨Nat.le_of_ble_eq_true rfl, Nat.le_of_ble_eq_true rfl⟩) (va_recv hK hP (ci := 7) (q0 := 0) rfl rfl) rfl hl.1 rfl (Nat.le_of_ble_eq_true rfl) dX7_breaker_69 ⟨Nat.le_of_ble_eq_true rfl, Nat.le_of_ble_eq_true rfl⟩ (fun u9 H locs hw9 hP hD hS => ?_)
          subst hw9
          have hP : va_P D vwCl (mw cI a (upd (upd (upd (upd (upd (upd (upd (upd mgI 0 0) 11 p_s) 12 p_l) 13 p_w) 14 p_t) 18 0) 21 0) 20 0) mdI mFI) H := hP
          have hD : va_D A (mw cI a (upd (upd (upd (upd (upd (upd (upd (upd mgI 0 0) 11 p_s) 12 p_l) 13 p_w) 14 p_t) 18 0) 21 0) 20 0) mdI mFI) := hD
          refine lv_iconst (v := 1) hx hb dX7_breaker_72 (by decide) ?_
          exact W.zret (v := 1) hx hb hr (rfl) (fun t ht hW => ⟨⟨_, (upd (upd (upd (upd (upd (upd (upd (upd mgI 0 0) 11 p_s) 12 p_l) 13 p_w) 14 p_t) 18 0) 21 0) 20 0, mdI, mFI), rfl, by simp [sp_breaker, c2, c4, c6, c8], by rw [ht]; exact hP, hD⟩, hS.F ht⟩) hS.2.2 dX7_breaker_73
        · refine lv_iconst (v := 0) hx hb dX7_breaker_44 (by decide) ?_
          exact W.zret (v := 0) hx hb hr (rfl) (fun t ht hW => ⟨⟨_, (upd mgI 0 0, mdI, mFI), rfl, by simp [sp_breaker, c2, c4, c6, c8], by rw [ht]; exact hP, hD⟩, hS.F ht⟩) hS.2.2 dX7_breaker_45
set_option maxHeartbeats 4000000 in
set_option maxRecDepth 100000 in
theorem i_X7_trips (l : Launch) (D : va_G) (cI : ClassId) (a : Nat → Nat) (sz : Nat) (p_f : UInt64) (p_s : UInt64) (p_k : Int32) : Met l yX7_trips wsX7_trips ({ frames := 1, cells := 0, slots := 0, locals := 22 }) (gP (KM D cI) D (mw cI a mgI mdI mFI) sz [.ref (a 0), .double p_f, .double p_s, .int p_k]) (va_Qi (fun (r : Int32) (u : SS) => r = sp_trips p_f p_s p_k) (gB D (wfM cI a) (va_A (mw cI a mgI mdI mFI) sz)) (va_A (mw cI a mgI mdI mFI) sz)) 0 0 (va_A (mw cI a mgI mdI mFI) sz) := by
  refine Met.ofW (cc := cX7_trips) (maxL := 6) (ret := (some .boolean)) (by decide) rfl ?_
  intro p e s m args below meth c s₁ B hml hv
  obtain ⟨rfl, hsz, hP, hD0, hKK⟩ := hv
  have hx := B.exec
  have hb := B.bytes
  have hr := B.returns
  have hts := atoms_spec (ws := wsX7_trips) B.pre
  have hown : s.vm.findClass RX7 = some m.cls := findClass_of_methodNamed B.named
  have hlocks := B.notSynchronized
  subst hsz
  have hK := hKK.1
  have hok := KM_ok D cI
  have hD := hD0.self (sz := s.heap.size)
  generalize hAe : va_A (mw cI a mgI mdI mFI) s.heap.size = A at hD ⊢
  have hi7 : ∀ w ∈ wsX70, w ∈ wsX7_trips := fun w h => List.mem_cons_of_mem _ (List.mem_append_right _ h)
  have hA : ∀ q : Nat, s.heap.size ≤ q → A q := fun q h => by rw [← hAe]; exact Or.inr h
  have hS : va_S A s.heap s.heap [] := va_S.rf
  have hP : va_P D vwCl (mw cI a mgI mdI mFI) s.heap := hP
  have hl := lv_entry ([.ref ((a 0)), .double p_f, .double p_s, .int p_k]) (n := 6) (Nat.le_of_ble_eq_true rfl)
  rw [lg_entry_eq]
  generalize (lg_sl ([.ref ((a 0)), .double p_f, .double p_s, .int p_k]) ++ List.replicate (6 - (lg_sl ([.ref ((a 0)), .double p_f, .double p_s, .int p_k])).length) Slot.unset).toArray = ls at hl ⊢
  have hl : lv_has ls 6 [(0, .ref ((a 0))), (1, .double p_f), (3, .double p_s), (5, .int p_k)] := hl
  refine lv_aload_n hx hb dX7_trips_0 rfl (lv_at hl 0 rfl) ?_
  refine lv_iconst (v := 0) hx hb dX7_trips_1 (by decide) ?_
  refine va_put (D := D) (ci := 7) (v := .int 0) (ty := .int) (C := RX7) (T := TX7) (N := 41) hx hb hts hi7 tyX7 tyX7_ok nmX7 hown hK hP hD hS 0 rfl rfl 0 (by decide) (hts (.fieldLink RX7 96 "GuardedCallsModel" "thrown" "I") (by decide +kernel)) (fun _ h9 => h9) rfl (by decide +kernel) rfl rfl (Nat.le_of_ble_eq_true rfl) dX7_trips_2 (fun H locs hP hD hS => ?_)
  have hP : va_P D vwCl (mw cI a (upd mgI 0 0) mdI mFI) H := hP
  have hD : va_D A (mw cI a (upd mgI 0 0) mdI mFI) := hD
  refine lv_dload_n hx hb dX7_trips_5 rfl (lv_at hl 1 rfl) ?_
  refine lv_dconst0 hx hb dX7_trips_6 ?_
  refine lv_dcmp hx hb dX7_trips_7 ?_
  refine lv_if_le (tgt := 44) hx hb dX7_trips_8 (by decide) (fun c1 => ?_) (fun c1 => ?_)
  · refine lv_iconst (v := 0) hx hb dX7_trips_44 (by decide) ?_
    exact W.zret (v := 0) hx hb hr (rfl) (fun t ht hW => ⟨⟨_, (upd mgI 0 0, mdI, mFI), rfl, by simp [sp_trips, br, c1], by rw [ht]; exact hP, hD⟩, hS.F ht⟩) hS.2.2 dX7_trips_45
  · refine lv_dload_n hx hb dX7_trips_11 rfl (lv_at hl 1 rfl) ?_
    refine lv_ldc2d (v := 4636737291354636288) hx hb hown (hts (.constantDouble RX7 44 (4636737291354636288)) (by decide +kernel)) dX7_trips_12 ?_
    refine lv_dcmp hx hb dX7_trips_15 ?_
    refine lv_if_gt (tgt := 44) hx hb dX7_trips_16 (by decide) (fun c2 => ?_) (fun c2 => ?_)
    · refine lv_iconst (v := 0) hx hb dX7_trips_44 (by decide) ?_
      exact W.zret (v := 0) hx hb hr (rfl) (fun t ht hW => ⟨⟨_, (upd mgI 0 0, mdI, mFI), rfl, by simp [sp_trips, br, c1, c2], by rw [ht]; exact hP, hD⟩, hS.F ht⟩) hS.2.2 dX7_trips_45
    · refine lv_dload_n hx hb dX7_trips_19 rfl (lv_at hl 2 rfl) ?_
      refine lv_dconst0 hx hb dX7_trips_20 ?_
      refine lv_dcmp hx hb dX7_trips_21 ?_
      refine lv_if_le (tgt := 44) hx hb dX7_trips_22 (by decide) (fun c3 => ?_) (fun c3 => ?_)
      · refine lv_iconst (v := 0) hx hb dX7_trips_44 (by decide) ?_
        exact W.zret (v := 0) hx hb hr (rfl) (fun t ht hW => ⟨⟨_, (upd mgI 0 0, mdI, mFI), rfl, by simp [sp_trips, br, c1, c2, c3], by rw [ht]; exact hP, hD⟩, hS.F ht⟩) hS.2.2 dX7_trips_45
      · refine lv_dload_n hx hb dX7_trips_25 rfl (lv_at hl 2 rfl) ?_
        refine lv_ldc2d (v := 4636737291354636288) hx hb hown (hts (.constantDouble RX7 44 (4636737291354636288)) (by decide +kernel)) dX7_trips_26 ?_
        refine lv_dcmp hx hb dX7_trips_29 ?_
        refine lv_if_gt (tgt := 44) hx hb dX7_trips_30 (by decide) (fun c4 => ?_) (fun c4 => ?_)
        · refine lv_iconst (v := 0) hx hb dX7_trips_44 (by decide) ?_
          exact W.zret (v := 0) hx hb hr (rfl) (fun t ht hW => ⟨⟨_, (upd mgI 0 0, mdI, mFI), rfl, by simp [sp_trips, br, c1, c2, c3, c4], by rw [ht]; exact hP, hD⟩, hS.F ht⟩) hS.2.2 dX7_trips_45
        · refine lv_iload hx hb dX7_trips_33 (lv_at hl 3 rfl) ?_
          refine lv_iconst (v := 0) hx hb dX7_trips_35 (by decide) ?_
          refine lv_bipush (v := 100) hx hb dX7_trips_36 (by decide) ?_
          refine gc_si (As := [.int p_k, .int 0, .int 100]) (rest := []) ⟨hx, hb, hml, hown, hts⟩ hP hD hS hA (c_X7_in l _ p_k 0 100) (va_cwS 3 hts gX7_trips_X7_in rfl rfl rfl (by decide +kernel) ⟨Nat.le_of_ble_eq_true rfl, Nat.le_of_ble_eq_true rfl⟩) rfl hl.1 rfl (Nat.le_of_ble_eq_true rfl) dX7_trips_38 ⟨Nat.le_of_ble_eq_true rfl, Nat.le_of_ble_eq_true rfl⟩ (fun r5 H locs hw5 hP hS => ?_)
          subst hw5
          refine lv_if_ne (tgt := 46) hx hb dX7_trips_41 (by decide) (fun c6 => ?_) (fun c6 => ?_)
          · refine lv_aload_n hx hb dX7_trips_46 rfl (lv_at hl 0 rfl) ?_
            refine lv_dload_n hx hb dX7_trips_47 rfl (lv_at hl 1 rfl) ?_
            refine va_put (D := D) (ci := 7) (v := .double p_f) (ty := .double) (C := RX7) (T := TX7) (N := 41) hx hb hts hi7 tyX7 tyX7_ok nmX7 hown hK hP hD hS 0 rfl rfl 16 (by decide) (hts (.fieldLink RX7 40 "GuardedCallsModel" "failures" "D") (by decide +kernel)) (fun _ h9 => h9) rfl (by decide +kernel) rfl rfl (Nat.le_of_ble_eq_true rfl) dX7_trips_48 (fun H locs hP hD hS => ?_)
            have hP : va_P D vwCl (mw cI a (upd mgI 0 0) (vf_upd mdI 16 p_f) mFI) H := hP
            have hD : va_D A (mw cI a (upd mgI 0 0) (vf_upd mdI 16 p_f) mFI) := hD
            refine lv_aload_n hx hb dX7_trips_51 rfl (lv_at hl 0 rfl) ?_
            refine lv_dload_n hx hb dX7_trips_52 rfl (lv_at hl 2 rfl) ?_
            refine va_put (D := D) (ci := 7) (v := .double p_s) (ty := .double) (C := RX7) (T := TX7) (N := 41) hx hb hts hi7 tyX7 tyX7_ok nmX7 hown hK hP hD hS 0 rfl rfl 17 (by decide) (hts (.fieldLink RX7 46 "GuardedCallsModel" "slugs" "D") (by decide +kernel)) (fun _ h9 => h9) rfl (by decide +kernel) rfl rfl (Nat.le_of_ble_eq_true rfl) dX7_trips_53 (fun H locs hP hD hS => ?_)
            have hP : va_P D vwCl (mw cI a (upd mgI 0 0) (vf_upd (vf_upd mdI 16 p_f) 17 p_s) mFI) H := hP
            have hD : va_D A (mw cI a (upd mgI 0 0) (vf_upd (vf_upd mdI 16 p_f) 17 p_s) mFI) := hD
            refine lv_aload_n hx hb dX7_trips_56 rfl (lv_at hl 0 rfl) ?_
            refine lv_iload hx hb dX7_trips_57 (lv_at hl 3 rfl) ?_
            refine va_put (D := D) (ci := 7) (v := .int p_k) (ty := .int) (C := RX7) (T := TX7) (N := 41) hx hb hts hi7 tyX7 tyX7_ok nmX7 hown hK hP hD hS 0 rfl rfl 15 (by decide) (hts (.fieldLink RX7 35 "GuardedCallsModel" "slow" "I") (by decide +kernel)) (fun _ h9 => h9) rfl (by decide +kernel) rfl rfl (Nat.le_of_ble_eq_true rfl) dX7_trips_59 (fun H locs hP hD hS => ?_)
            have hP : va_P D vwCl (mw cI a (upd (upd mgI 0 0) 15 p_k) (vf_upd (vf_upd mdI 16 p_f) 17 p_s) mFI) H := hP
            have hD : va_D A (mw cI a (upd (upd mgI 0 0) 15 p_k) (vf_upd (vf_upd mdI 16 p_f) 17 p_s) mFI) := hD
            refine lv_iconst (v := 1) hx hb dX7_trips_62 (by decide) ?_
            exact W.zret (v := 1) hx hb hr (rfl) (fun t ht hW => ⟨⟨_, (upd (upd mgI 0 0) 15 p_k, vf_upd (vf_upd mdI 16 p_f) 17 p_s, mFI), rfl, by simp [sp_trips, br, c1, c2, c3, c4, c6], by rw [ht]; exact hP, hD⟩, hS.F ht⟩) hS.2.2 dX7_trips_63
          · refine lv_iconst (v := 0) hx hb dX7_trips_44 (by decide) ?_
            exact W.zret (v := 0) hx hb hr (rfl) (fun t ht hW => ⟨⟨_, (upd mgI 0 0, mdI, mFI), rfl, by simp [sp_trips, br, c1, c2, c3, c4, c6], by rw [ht]; exact hP, hD⟩, hS.F ht⟩) hS.2.2 dX7_trips_45
set_option maxHeartbeats 4000000 in
set_option maxRecDepth 100000 in
theorem i_X7_bulkhead (l : Launch) (D : va_G) (cI : ClassId) (a : Nat → Nat) (sz : Nat) (p_k : Int32) : Met l yX7_bulkhead wsX7_bulkhead ({ frames := 1, cells := 0, slots := 0, locals := 22 }) (gP (KM D cI) D (mw cI a mgI mdI mFI) sz [.ref (a 0), .int p_k]) (va_Qi (fun (r : Int32) (u : SS) => r = sp1 p_k 0 5) (gB D (wfM cI a) (va_A (mw cI a mgI mdI mFI) sz)) (va_A (mw cI a mgI mdI mFI) sz)) 0 0 (va_A (mw cI a mgI mdI mFI) sz) := by
  refine Met.ofW (cc := cX7_bulkhead) (maxL := 2) (ret := (some .boolean)) (by decide) rfl ?_
  intro p e s m args below meth c s₁ B hml hv
  obtain ⟨rfl, hsz, hP, hD0, hKK⟩ := hv
  have hx := B.exec
  have hb := B.bytes
  have hr := B.returns
  have hts := atoms_spec (ws := wsX7_bulkhead) B.pre
  have hown : s.vm.findClass RX7 = some m.cls := findClass_of_methodNamed B.named
  have hlocks := B.notSynchronized
  subst hsz
  have hK := hKK.1
  have hok := KM_ok D cI
  have hD := hD0.self (sz := s.heap.size)
  generalize hAe : va_A (mw cI a mgI mdI mFI) s.heap.size = A at hD ⊢
  have hi7 : ∀ w ∈ wsX70, w ∈ wsX7_bulkhead := fun w h => List.mem_cons_of_mem _ (List.mem_append_right _ h)
  have hA : ∀ q : Nat, s.heap.size ≤ q → A q := fun q h => by rw [← hAe]; exact Or.inr h
  have hS : va_S A s.heap s.heap [] := va_S.rf
  have hP : va_P D vwCl (mw cI a mgI mdI mFI) s.heap := hP
  have hl := lv_entry ([.ref ((a 0)), .int p_k]) (n := 2) (Nat.le_of_ble_eq_true rfl)
  rw [lg_entry_eq]
  generalize (lg_sl ([.ref ((a 0)), .int p_k]) ++ List.replicate (2 - (lg_sl ([.ref ((a 0)), .int p_k])).length) Slot.unset).toArray = ls at hl ⊢
  have hl : lv_has ls 2 [(0, .ref ((a 0))), (1, .int p_k)] := hl
  refine lv_aload_n hx hb dX7_bulkhead_0 rfl (lv_at hl 0 rfl) ?_
  refine lv_iconst (v := 0) hx hb dX7_bulkhead_1 (by decide) ?_
  refine va_put (D := D) (ci := 7) (v := .int 0) (ty := .int) (C := RX7) (T := TX7) (N := 41) hx hb hts hi7 tyX7 tyX7_ok nmX7 hown hK hP hD hS 0 rfl rfl 0 (by decide) (hts (.fieldLink RX7 96 "GuardedCallsModel" "thrown" "I") (by decide +kernel)) (fun _ h9 => h9) rfl (by decide +kernel) rfl rfl (Nat.le_of_ble_eq_true rfl) dX7_bulkhead_2 (fun H locs hP hD hS => ?_)
  have hP : va_P D vwCl (mw cI a (upd mgI 0 0) mdI mFI) H := hP
  have hD : va_D A (mw cI a (upd mgI 0 0) mdI mFI) := hD
  refine lv_iload_n hx hb dX7_bulkhead_5 rfl (lv_at hl 1 rfl) ?_
  refine lv_iconst (v := 0) hx hb dX7_bulkhead_6 (by decide) ?_
  refine lv_iconst (v := 5) hx hb dX7_bulkhead_7 (by decide) ?_
  refine gc_si (As := [.int p_k, .int 0, .int 5]) (rest := []) ⟨hx, hb, hml, hown, hts⟩ hP hD hS hA (c_X7_in l _ p_k 0 5) (va_cwS 3 hts gX7_bulkhead_X7_in rfl rfl rfl (by decide +kernel) ⟨Nat.le_of_ble_eq_true rfl, Nat.le_of_ble_eq_true rfl⟩) rfl hl.1 rfl (Nat.le_of_ble_eq_true rfl) dX7_bulkhead_8 ⟨Nat.le_of_ble_eq_true rfl, Nat.le_of_ble_eq_true rfl⟩ (fun r1 H locs hw1 hP hS => ?_)
  subst hw1
  refine lv_if_ne (tgt := 16) hx hb dX7_bulkhead_11 (by decide) (fun c2 => ?_) (fun c2 => ?_)
  · refine lv_aload_n hx hb dX7_bulkhead_16 rfl (lv_at hl 0 rfl) ?_
    refine lv_iload_n hx hb dX7_bulkhead_17 rfl (lv_at hl 1 rfl) ?_
    refine va_put (D := D) (ci := 7) (v := .int p_k) (ty := .int) (C := RX7) (T := TX7) (N := 41) hx hb hts hi7 tyX7 tyX7_ok nmX7 hown hK hP hD hS 0 rfl rfl 25 (by decide) (hts (.fieldLink RX7 52 "GuardedCallsModel" "capacity" "I") (by decide +kernel)) (fun _ h9 => h9) rfl (by decide +kernel) rfl rfl (Nat.le_of_ble_eq_true rfl) dX7_bulkhead_18 (fun H locs hP hD hS => ?_)
    have hP : va_P D vwCl (mw cI a (upd (upd mgI 0 0) 25 p_k) mdI mFI) H := hP
    have hD : va_D A (mw cI a (upd (upd mgI 0 0) 25 p_k) mdI mFI) := hD
    refine lv_iconst (v := 1) hx hb dX7_bulkhead_21 (by decide) ?_
    exact W.zret (v := 1) hx hb hr (rfl) (fun t ht hW => ⟨⟨_, (upd (upd mgI 0 0) 25 p_k, mdI, mFI), rfl, by simp [sp1, c2], by rw [ht]; exact hP, hD⟩, hS.F ht⟩) hS.2.2 dX7_bulkhead_22
  · refine lv_iconst (v := 0) hx hb dX7_bulkhead_14 (by decide) ?_
    exact W.zret (v := 0) hx hb hr (rfl) (fun t ht hW => ⟨⟨_, (upd mgI 0 0, mdI, mFI), rfl, by simp [sp1, c2], by rw [ht]; exact hP, hD⟩, hS.F ht⟩) hS.2.2 dX7_bulkhead_15
set_option maxHeartbeats 4000000 in
set_option maxRecDepth 100000 in
theorem i_X7_use (l : Launch) (D : va_G) (cI : ClassId) (a : Nat → Nat) (sz : Nat) (p_k : Int32) : Met l yX7_use wsX7_use ({ frames := 1, cells := 0, slots := 0, locals := 22 }) (gP (KM D cI) D (mw cI a mgI mdI mFI) sz [.ref (a 0), .int p_k]) (va_Qi (fun (r : Int32) (u : SS) => r = sp1 p_k 0 9) (gB D (wfM cI a) (va_A (mw cI a mgI mdI mFI) sz)) (va_A (mw cI a mgI mdI mFI) sz)) 0 0 (va_A (mw cI a mgI mdI mFI) sz) := by
  refine Met.ofW (cc := cX7_use) (maxL := 2) (ret := (some .boolean)) (by decide) rfl ?_
  intro p e s m args below meth c s₁ B hml hv
  obtain ⟨rfl, hsz, hP, hD0, hKK⟩ := hv
  have hx := B.exec
  have hb := B.bytes
  have hr := B.returns
  have hts := atoms_spec (ws := wsX7_use) B.pre
  have hown : s.vm.findClass RX7 = some m.cls := findClass_of_methodNamed B.named
  have hlocks := B.notSynchronized
  subst hsz
  have hK := hKK.1
  have hok := KM_ok D cI
  have hD := hD0.self (sz := s.heap.size)
  generalize hAe : va_A (mw cI a mgI mdI mFI) s.heap.size = A at hD ⊢
  have hi7 : ∀ w ∈ wsX70, w ∈ wsX7_use := fun w h => List.mem_cons_of_mem _ (List.mem_append_right _ h)
  have hA : ∀ q : Nat, s.heap.size ≤ q → A q := fun q h => by rw [← hAe]; exact Or.inr h
  have hS : va_S A s.heap s.heap [] := va_S.rf
  have hP : va_P D vwCl (mw cI a mgI mdI mFI) s.heap := hP
  have hl := lv_entry ([.ref ((a 0)), .int p_k]) (n := 2) (Nat.le_of_ble_eq_true rfl)
  rw [lg_entry_eq]
  generalize (lg_sl ([.ref ((a 0)), .int p_k]) ++ List.replicate (2 - (lg_sl ([.ref ((a 0)), .int p_k])).length) Slot.unset).toArray = ls at hl ⊢
  have hl : lv_has ls 2 [(0, .ref ((a 0))), (1, .int p_k)] := hl
  refine lv_aload_n hx hb dX7_use_0 rfl (lv_at hl 0 rfl) ?_
  refine lv_iconst (v := 0) hx hb dX7_use_1 (by decide) ?_
  refine va_put (D := D) (ci := 7) (v := .int 0) (ty := .int) (C := RX7) (T := TX7) (N := 41) hx hb hts hi7 tyX7 tyX7_ok nmX7 hown hK hP hD hS 0 rfl rfl 0 (by decide) (hts (.fieldLink RX7 96 "GuardedCallsModel" "thrown" "I") (by decide +kernel)) (fun _ h9 => h9) rfl (by decide +kernel) rfl rfl (Nat.le_of_ble_eq_true rfl) dX7_use_2 (fun H locs hP hD hS => ?_)
  have hP : va_P D vwCl (mw cI a (upd mgI 0 0) mdI mFI) H := hP
  have hD : va_D A (mw cI a (upd mgI 0 0) mdI mFI) := hD
  refine lv_iload_n hx hb dX7_use_5 rfl (lv_at hl 1 rfl) ?_
  refine lv_bipush (v := (-9)) hx hb dX7_use_6 (by decide) ?_
  refine lv_bipush (v := 9) hx hb dX7_use_8 (by decide) ?_
  refine gc_si (As := [.int p_k, .int ((-9)), .int 9]) (rest := []) ⟨hx, hb, hml, hown, hts⟩ hP hD hS hA (c_X7_in l _ p_k ((-9)) 9) (va_cwS 3 hts gX7_use_X7_in rfl rfl rfl (by decide +kernel) ⟨Nat.le_of_ble_eq_true rfl, Nat.le_of_ble_eq_true rfl⟩) rfl hl.1 rfl (Nat.le_of_ble_eq_true rfl) dX7_use_10 ⟨Nat.le_of_ble_eq_true rfl, Nat.le_of_ble_eq_true rfl⟩ (fun r1 H locs hw1 hP hS => ?_)
  subst hw1
  refine lv_if_eq (tgt := 31) hx hb dX7_use_13 (by decide) (fun c2 => ?_) (fun c2 => ?_)
  · refine lv_iconst (v := 0) hx hb dX7_use_31 (by decide) ?_
    exact W.zret (v := 0) hx hb hr (rfl) (fun t ht hW => ⟨⟨_, (upd mgI 0 0, mdI, mFI), rfl, by simp [sp1, use_m c2], by rw [ht]; exact hP, hD⟩, hS.F ht⟩) hS.2.2 dX7_use_32
  · refine lv_aload_n hx hb dX7_use_16 rfl (lv_at hl 0 rfl) ?_
    refine va_get (D := D) (ci := 7) (v := .int 0) (C := RX7) (T := TX7) (N := 41) hx hb hts hi7 hown hK hP 0 rfl rfl 26 (by decide) (hts (.fieldLink RX7 167 "GuardedCallsModel" "used" "I") (by decide +kernel)) (fun _ h9 => h9) rfl dX7_use_17 ?_
    refine lv_iload_n hx hb dX7_use_20 rfl (lv_at hl 1 rfl) ?_
    refine lv_iadd hx hb dX7_use_21 ?_
    refine lv_topi (fun x3 e3 => ?_)
    refine lv_iconst (v := 0) hx hb dX7_use_22 (by decide) ?_
    refine lv_bipush (v := 9) hx hb dX7_use_23 (by decide) ?_
    refine gc_si (As := [.int x3, .int 0, .int 9]) (rest := []) ⟨hx, hb, hml, hown, hts⟩ hP hD hS hA (c_X7_in l _ x3 0 9) (va_cwS 3 hts gX7_use_X7_in rfl rfl rfl (by decide +kernel) ⟨Nat.le_of_ble_eq_true rfl, Nat.le_of_ble_eq_true rfl⟩) rfl hl.1 rfl (Nat.le_of_ble_eq_true rfl) dX7_use_25 ⟨Nat.le_of_ble_eq_true rfl, Nat.le_of_ble_eq_true rfl⟩ (fun r4 H locs hw4 hP hS => ?_)
    subst hw4
    refine lv_if_ne (tgt := 33) hx hb dX7_use_28 (by decide) (fun c5 => ?_) (fun c5 => ?_)
    · refine lv_aload_n hx hb dX7_use_33 rfl (lv_at hl 0 rfl) ?_
      refine lv_aload_n hx hb dX7_use_34 rfl (lv_at hl 0 rfl) ?_
      refine va_get (D := D) (ci := 7) (v := .int 0) (C := RX7) (T := TX7) (N := 41) hx hb hts hi7 hown hK hP 0 rfl rfl 26 (by decide) (hts (.fieldLink RX7 167 "GuardedCallsModel" "used" "I") (by decide +kernel)) (fun _ h9 => h9) rfl dX7_use_35 ?_
      refine lv_iload_n hx hb dX7_use_38 rfl (lv_at hl 1 rfl) ?_
      refine lv_iadd hx hb dX7_use_39 ?_
      refine lv_topi (fun x6 e6 => ?_)
      refine va_put (D := D) (ci := 7) (v := .int x6) (ty := .int) (C := RX7) (T := TX7) (N := 41) hx hb hts hi7 tyX7 tyX7_ok nmX7 hown hK hP hD hS 0 rfl rfl 26 (by decide) (hts (.fieldLink RX7 167 "GuardedCallsModel" "used" "I") (by decide +kernel)) (fun _ h9 => h9) rfl (by decide +kernel) rfl rfl (Nat.le_of_ble_eq_true rfl) dX7_use_40 (fun H locs hP hD hS => ?_)
      have hP : va_P D vwCl (mw cI a (upd (upd mgI 0 0) 26 x6) mdI mFI) H := hP
      have hD : va_D A (mw cI a (upd (upd mgI 0 0) 26 x6) mdI mFI) := hD
      refine lv_iconst (v := 1) hx hb dX7_use_43 (by decide) ?_
      exact W.zret (v := 1) hx hb hr (rfl) (fun t ht hW => ⟨⟨_, (upd (upd mgI 0 0) 26 x6, mdI, mFI), rfl, by rw [show x3 = p_k from by rw [e3]; simp] at c5; simp [sp1, c5], by rw [ht]; exact hP, hD⟩, hS.F ht⟩) hS.2.2 dX7_use_44
    · refine lv_iconst (v := 0) hx hb dX7_use_31 (by decide) ?_
      exact W.zret (v := 0) hx hb hr (rfl) (fun t ht hW => ⟨⟨_, (upd mgI 0 0, mdI, mFI), rfl, by rw [show x3 = p_k from by rw [e3]; simp] at c5; simp [sp1, c5], by rw [ht]; exact hP, hD⟩, hS.F ht⟩) hS.2.2 dX7_use_32
set_option maxHeartbeats 4000000 in
set_option maxRecDepth 100000 in
theorem i_X7_limiter (l : Launch) (D : va_G) (cI : ClassId) (a : Nat → Nat) (sz : Nat) (p_p : Int32) (p_l : Int32) (p_w : Int32) : Met l yX7_limiter wsX7_limiter ({ frames := 1, cells := 0, slots := 0, locals := 22 }) (gP (KM D cI) D (mw cI a mgI mdI mFI) sz [.ref (a 0), .int p_p, .int p_l, .int p_w]) (va_Qi (fun (r : Int32) (u : SS) => r = sp_lim p_p p_l p_w) (gB D (wfM cI a) (va_A (mw cI a mgI mdI mFI) sz)) (va_A (mw cI a mgI mdI mFI) sz)) 0 0 (va_A (mw cI a mgI mdI mFI) sz) := by
  refine Met.ofW (cc := cX7_limiter) (maxL := 4) (ret := (some .boolean)) (by decide) rfl ?_
  intro p e s m args below meth c s₁ B hml hv
  obtain ⟨rfl, hsz, hP, hD0, hKK⟩ := hv
  have hx := B.exec
  have hb := B.bytes
  have hr := B.returns
  have hts := atoms_spec (ws := wsX7_limiter) B.pre
  have hown : s.vm.findClass RX7 = some m.cls := findClass_of_methodNamed B.named
  have hlocks := B.notSynchronized
  subst hsz
  have hK := hKK.1
  have hok := KM_ok D cI
  have hD := hD0.self (sz := s.heap.size)
  generalize hAe : va_A (mw cI a mgI mdI mFI) s.heap.size = A at hD ⊢
  have hi7 : ∀ w ∈ wsX70, w ∈ wsX7_limiter := fun w h => List.mem_cons_of_mem _ (List.mem_append_right _ h)
  have hA : ∀ q : Nat, s.heap.size ≤ q → A q := fun q h => by rw [← hAe]; exact Or.inr h
  have hS : va_S A s.heap s.heap [] := va_S.rf
  have hP : va_P D vwCl (mw cI a mgI mdI mFI) s.heap := hP
  have hl := lv_entry ([.ref ((a 0)), .int p_p, .int p_l, .int p_w]) (n := 4) (Nat.le_of_ble_eq_true rfl)
  rw [lg_entry_eq]
  generalize (lg_sl ([.ref ((a 0)), .int p_p, .int p_l, .int p_w]) ++ List.replicate (4 - (lg_sl ([.ref ((a 0)), .int p_p, .int p_l, .int p_w])).length) Slot.unset).toArray = ls at hl ⊢
  have hl : lv_has ls 4 [(0, .ref ((a 0))), (1, .int p_p), (2, .int p_l), (3, .int p_w)] := hl
  refine lv_aload_n hx hb dX7_limiter_0 rfl (lv_at hl 0 rfl) ?_
  refine lv_iconst (v := 0) hx hb dX7_limiter_1 (by decide) ?_
  refine va_put (D := D) (ci := 7) (v := .int 0) (ty := .int) (C := RX7) (T := TX7) (N := 41) hx hb hts hi7 tyX7 tyX7_ok nmX7 hown hK hP hD hS 0 rfl rfl 0 (by decide) (hts (.fieldLink RX7 96 "GuardedCallsModel" "thrown" "I") (by decide +kernel)) (fun _ h9 => h9) rfl (by decide +kernel) rfl rfl (Nat.le_of_ble_eq_true rfl) dX7_limiter_2 (fun H locs hP hD hS => ?_)
  have hP : va_P D vwCl (mw cI a (upd mgI 0 0) mdI mFI) H := hP
  have hD : va_D A (mw cI a (upd mgI 0 0) mdI mFI) := hD
  refine lv_iload_n hx hb dX7_limiter_5 rfl (lv_at hl 1 rfl) ?_
  refine lv_iconst (v := 1) hx hb dX7_limiter_6 (by decide) ?_
  refine lv_bipush (v := 50) hx hb dX7_limiter_7 (by decide) ?_
  refine gc_si (As := [.int p_p, .int 1, .int 50]) (rest := []) ⟨hx, hb, hml, hown, hts⟩ hP hD hS hA (c_X7_in l _ p_p 1 50) (va_cwS 3 hts gX7_limiter_X7_in rfl rfl rfl (by decide +kernel) ⟨Nat.le_of_ble_eq_true rfl, Nat.le_of_ble_eq_true rfl⟩) rfl hl.1 rfl (Nat.le_of_ble_eq_true rfl) dX7_limiter_9 ⟨Nat.le_of_ble_eq_true rfl, Nat.le_of_ble_eq_true rfl⟩ (fun r1 H locs hw1 hP hS => ?_)
  subst hw1
  refine lv_if_eq (tgt := 34) hx hb dX7_limiter_12 (by decide) (fun c2 => ?_) (fun c2 => ?_)
  · refine lv_iconst (v := 0) hx hb dX7_limiter_34 (by decide) ?_
    exact W.zret (v := 0) hx hb hr (rfl) (fun t ht hW => ⟨⟨_, (upd mgI 0 0, mdI, mFI), rfl, by simp [sp_lim, c2], by rw [ht]; exact hP, hD⟩, hS.F ht⟩) hS.2.2 dX7_limiter_35
  · refine lv_iload_n hx hb dX7_limiter_15 rfl (lv_at hl 2 rfl) ?_
    refine lv_iconst (v := 1) hx hb dX7_limiter_16 (by decide) ?_
    refine lv_iconst (v := 5) hx hb dX7_limiter_17 (by decide) ?_
    refine gc_si (As := [.int p_l, .int 1, .int 5]) (rest := []) ⟨hx, hb, hml, hown, hts⟩ hP hD hS hA (c_X7_in l _ p_l 1 5) (va_cwS 3 hts gX7_limiter_X7_in rfl rfl rfl (by decide +kernel) ⟨Nat.le_of_ble_eq_true rfl, Nat.le_of_ble_eq_true rfl⟩) rfl hl.1 rfl (Nat.le_of_ble_eq_true rfl) dX7_limiter_18 ⟨Nat.le_of_ble_eq_true rfl, Nat.le_of_ble_eq_true rfl⟩ (fun r3 H locs hw3 hP hS => ?_)
    subst hw3
    refine lv_if_eq (tgt := 34) hx hb dX7_limiter_21 (by decide) (fun c4 => ?_) (fun c4 => ?_)
    · refine lv_iconst (v := 0) hx hb dX7_limiter_34 (by decide) ?_
      exact W.zret (v := 0) hx hb hr (rfl) (fun t ht hW => ⟨⟨_, (upd mgI 0 0, mdI, mFI), rfl, by simp [sp_lim, c2, c4], by rw [ht]; exact hP, hD⟩, hS.F ht⟩) hS.2.2 dX7_limiter_35
    · refine lv_iload_n hx hb dX7_limiter_24 rfl (lv_at hl 3 rfl) ?_
      refine lv_iconst (v := 0) hx hb dX7_limiter_25 (by decide) ?_
      refine lv_bipush (v := 100) hx hb dX7_limiter_26 (by decide) ?_
      refine gc_si (As := [.int p_w, .int 0, .int 100]) (rest := []) ⟨hx, hb, hml, hown, hts⟩ hP hD hS hA (c_X7_in l _ p_w 0 100) (va_cwS 3 hts gX7_limiter_X7_in rfl rfl rfl (by decide +kernel) ⟨Nat.le_of_ble_eq_true rfl, Nat.le_of_ble_eq_true rfl⟩) rfl hl.1 rfl (Nat.le_of_ble_eq_true rfl) dX7_limiter_28 ⟨Nat.le_of_ble_eq_true rfl, Nat.le_of_ble_eq_true rfl⟩ (fun r5 H locs hw5 hP hS => ?_)
      subst hw5
      refine lv_if_ne (tgt := 36) hx hb dX7_limiter_31 (by decide) (fun c6 => ?_) (fun c6 => ?_)
      · refine lv_aload_n hx hb dX7_limiter_36 rfl (lv_at hl 0 rfl) ?_
        refine lv_iload_n hx hb dX7_limiter_37 rfl (lv_at hl 1 rfl) ?_
        refine va_put (D := D) (ci := 7) (v := .int p_p) (ty := .int) (C := RX7) (T := TX7) (N := 41) hx hb hts hi7 tyX7 tyX7_ok nmX7 hown hK hP hD hS 0 rfl rfl 27 (by decide) (hts (.fieldLink RX7 55 "GuardedCallsModel" "period" "I") (by decide +kernel)) (fun _ h9 => h9) rfl (by decide +kernel) rfl rfl (Nat.le_of_ble_eq_true rfl) dX7_limiter_38 (fun H locs hP hD hS => ?_)
        have hP : va_P D vwCl (mw cI a (upd (upd mgI 0 0) 27 p_p) mdI mFI) H := hP
        have hD : va_D A (mw cI a (upd (upd mgI 0 0) 27 p_p) mdI mFI) := hD
        refine lv_aload_n hx hb dX7_limiter_41 rfl (lv_at hl 0 rfl) ?_
        refine lv_iload_n hx hb dX7_limiter_42 rfl (lv_at hl 2 rfl) ?_
        refine va_put (D := D) (ci := 7) (v := .int p_l) (ty := .int) (C := RX7) (T := TX7) (N := 41) hx hb hts hi7 tyX7 tyX7_ok nmX7 hown hK hP hD hS 0 rfl rfl 28 (by decide) (hts (.fieldLink RX7 58 "GuardedCallsModel" "limit" "I") (by decide +kernel)) (fun _ h9 => h9) rfl (by decide +kernel) rfl rfl (Nat.le_of_ble_eq_true rfl) dX7_limiter_43 (fun H locs hP hD hS => ?_)
        have hP : va_P D vwCl (mw cI a (upd (upd (upd mgI 0 0) 27 p_p) 28 p_l) mdI mFI) H := hP
        have hD : va_D A (mw cI a (upd (upd (upd mgI 0 0) 27 p_p) 28 p_l) mdI mFI) := hD
        refine lv_aload_n hx hb dX7_limiter_46 rfl (lv_at hl 0 rfl) ?_
        refine lv_iload_n hx hb dX7_limiter_47 rfl (lv_at hl 3 rfl) ?_
        refine va_put (D := D) (ci := 7) (v := .int p_w) (ty := .int) (C := RX7) (T := TX7) (N := 41) hx hb hts hi7 tyX7 tyX7_ok nmX7 hown hK hP hD hS 0 rfl rfl 29 (by decide) (hts (.fieldLink RX7 61 "GuardedCallsModel" "patience" "I") (by decide +kernel)) (fun _ h9 => h9) rfl (by decide +kernel) rfl rfl (Nat.le_of_ble_eq_true rfl) dX7_limiter_48 (fun H locs hP hD hS => ?_)
        have hP : va_P D vwCl (mw cI a (upd (upd (upd (upd mgI 0 0) 27 p_p) 28 p_l) 29 p_w) mdI mFI) H := hP
        have hD : va_D A (mw cI a (upd (upd (upd (upd mgI 0 0) 27 p_p) 28 p_l) 29 p_w) mdI mFI) := hD
        refine lv_aload_n hx hb dX7_limiter_51 rfl (lv_at hl 0 rfl) ?_
        refine gc_vv (As := []) (rest := []) (w0 := mw cI a (upd (upd (upd (upd mgI 0 0) 27 p_p) 28 p_l) 29 p_w) mdI mFI) (wc := mw cI a (upd (upd (upd (upd mgI 0 0) 27 p_p) 28 p_l) 29 p_w) mdI mFI) (wr := []) (wf := wfM cI a) ⟨hx, hb, hml, hown, hts⟩ hKK hok hP hD hS hA [0, 1, 2, 3, 4, 5, 6] [] rfl rfl (by decide) (c_X7_renew l D cI a _ (upd (upd (upd (upd mgI 0 0) 27 p_p) 28 p_l) 29 p_w) mdI mFI (bw_ne0 c2)) (cwV 0 hts gX7_limiter_X7_renew rfl rfl rfl (by decide +kernel) ⟨Nat.le_of_ble_eq_true rfl, Nat.le_of_ble_eq_true rfl⟩) (va_recv hK hP (ci := 7) (q0 := 0) rfl rfl) rfl hl.1 rfl (Nat.le_of_ble_eq_true rfl) dX7_limiter_52 ⟨Nat.le_of_ble_eq_true rfl, Nat.le_of_ble_eq_true rfl⟩ (fun u7 H locs hw7 hP hD hS => ?_)
        obtain ⟨g7, d7, F7⟩ := u7
        have hP : va_P D vwCl (mw cI a g7 d7 F7) H := hP
        have hD : va_D A (mw cI a g7 d7 F7) := hD
        refine lv_iconst (v := 1) hx hb dX7_limiter_55 (by decide) ?_
        exact W.zret (v := 1) hx hb hr (rfl) (fun t ht hW => ⟨⟨_, (g7, d7, F7), rfl, by simp [sp_lim, c2, c4, c6], by rw [ht]; exact hP, hD⟩, hS.F ht⟩) hS.2.2 dX7_limiter_56
      · refine lv_iconst (v := 0) hx hb dX7_limiter_34 (by decide) ?_
        exact W.zret (v := 0) hx hb hr (rfl) (fun t ht hW => ⟨⟨_, (upd mgI 0 0, mdI, mFI), rfl, by simp [sp_lim, c2, c4, c6], by rw [ht]; exact hP, hD⟩, hS.F ht⟩) hS.2.2 dX7_limiter_35
set_option maxHeartbeats 4000000 in
set_option maxRecDepth 100000 in
theorem i_X7_retry (l : Launch) (D : va_G) (cI : ClassId) (a : Nat → Nat) (sz : Nat) (p_x : Int32) (p_y : Int32) : Met l yX7_retry wsX7_retry ({ frames := 1, cells := 0, slots := 0, locals := 22 }) (gP (KM D cI) D (mw cI a mgI mdI mFI) sz [.ref (a 0), .int p_x, .int p_y]) (va_Qi (fun (r : Int32) (u : SS) => r = sp_retry p_x p_y) (gB D (wfM cI a) (va_A (mw cI a mgI mdI mFI) sz)) (va_A (mw cI a mgI mdI mFI) sz)) 0 0 (va_A (mw cI a mgI mdI mFI) sz) := by
  refine Met.ofW (cc := cX7_retry) (maxL := 3) (ret := (some .boolean)) (by decide) rfl ?_
  intro p e s m args below meth c s₁ B hml hv
  obtain ⟨rfl, hsz, hP, hD0, hKK⟩ := hv
  have hx := B.exec
  have hb := B.bytes
  have hr := B.returns
  have hts := atoms_spec (ws := wsX7_retry) B.pre
  have hown : s.vm.findClass RX7 = some m.cls := findClass_of_methodNamed B.named
  have hlocks := B.notSynchronized
  subst hsz
  have hK := hKK.1
  have hok := KM_ok D cI
  have hD := hD0.self (sz := s.heap.size)
  generalize hAe : va_A (mw cI a mgI mdI mFI) s.heap.size = A at hD ⊢
  have hi7 : ∀ w ∈ wsX70, w ∈ wsX7_retry := fun w h => List.mem_cons_of_mem _ (List.mem_append_right _ h)
  have hA : ∀ q : Nat, s.heap.size ≤ q → A q := fun q h => by rw [← hAe]; exact Or.inr h
  have hS : va_S A s.heap s.heap [] := va_S.rf
  have hP : va_P D vwCl (mw cI a mgI mdI mFI) s.heap := hP
  have hl := lv_entry ([.ref ((a 0)), .int p_x, .int p_y]) (n := 3) (Nat.le_of_ble_eq_true rfl)
  rw [lg_entry_eq]
  generalize (lg_sl ([.ref ((a 0)), .int p_x, .int p_y]) ++ List.replicate (3 - (lg_sl ([.ref ((a 0)), .int p_x, .int p_y])).length) Slot.unset).toArray = ls at hl ⊢
  have hl : lv_has ls 3 [(0, .ref ((a 0))), (1, .int p_x), (2, .int p_y)] := hl
  refine lv_aload_n hx hb dX7_retry_0 rfl (lv_at hl 0 rfl) ?_
  refine lv_iconst (v := 0) hx hb dX7_retry_1 (by decide) ?_
  refine va_put (D := D) (ci := 7) (v := .int 0) (ty := .int) (C := RX7) (T := TX7) (N := 41) hx hb hts hi7 tyX7 tyX7_ok nmX7 hown hK hP hD hS 0 rfl rfl 0 (by decide) (hts (.fieldLink RX7 96 "GuardedCallsModel" "thrown" "I") (by decide +kernel)) (fun _ h9 => h9) rfl (by decide +kernel) rfl rfl (Nat.le_of_ble_eq_true rfl) dX7_retry_2 (fun H locs hP hD hS => ?_)
  have hP : va_P D vwCl (mw cI a (upd mgI 0 0) mdI mFI) H := hP
  have hD : va_D A (mw cI a (upd mgI 0 0) mdI mFI) := hD
  refine lv_iload_n hx hb dX7_retry_5 rfl (lv_at hl 1 rfl) ?_
  refine lv_iconst (v := 1) hx hb dX7_retry_6 (by decide) ?_
  refine lv_iconst (v := 5) hx hb dX7_retry_7 (by decide) ?_
  refine gc_si (As := [.int p_x, .int 1, .int 5]) (rest := []) ⟨hx, hb, hml, hown, hts⟩ hP hD hS hA (c_X7_in l _ p_x 1 5) (va_cwS 3 hts gX7_retry_X7_in rfl rfl rfl (by decide +kernel) ⟨Nat.le_of_ble_eq_true rfl, Nat.le_of_ble_eq_true rfl⟩) rfl hl.1 rfl (Nat.le_of_ble_eq_true rfl) dX7_retry_8 ⟨Nat.le_of_ble_eq_true rfl, Nat.le_of_ble_eq_true rfl⟩ (fun r1 H locs hw1 hP hS => ?_)
  subst hw1
  refine lv_if_eq (tgt := 24) hx hb dX7_retry_11 (by decide) (fun c2 => ?_) (fun c2 => ?_)
  · refine lv_iconst (v := 0) hx hb dX7_retry_24 (by decide) ?_
    exact W.zret (v := 0) hx hb hr (rfl) (fun t ht hW => ⟨⟨_, (upd mgI 0 0, mdI, mFI), rfl, by simp [sp_retry, c2], by rw [ht]; exact hP, hD⟩, hS.F ht⟩) hS.2.2 dX7_retry_25
  · refine lv_iload_n hx hb dX7_retry_14 rfl (lv_at hl 2 rfl) ?_
    refine lv_iconst (v := 0) hx hb dX7_retry_15 (by decide) ?_
    refine lv_bipush (v := 63) hx hb dX7_retry_16 (by decide) ?_
    refine gc_si (As := [.int p_y, .int 0, .int 63]) (rest := []) ⟨hx, hb, hml, hown, hts⟩ hP hD hS hA (c_X7_in l _ p_y 0 63) (va_cwS 3 hts gX7_retry_X7_in rfl rfl rfl (by decide +kernel) ⟨Nat.le_of_ble_eq_true rfl, Nat.le_of_ble_eq_true rfl⟩) rfl hl.1 rfl (Nat.le_of_ble_eq_true rfl) dX7_retry_18 ⟨Nat.le_of_ble_eq_true rfl, Nat.le_of_ble_eq_true rfl⟩ (fun r3 H locs hw3 hP hS => ?_)
    subst hw3
    refine lv_if_ne (tgt := 26) hx hb dX7_retry_21 (by decide) (fun c4 => ?_) (fun c4 => ?_)
    · refine lv_aload_n hx hb dX7_retry_26 rfl (lv_at hl 0 rfl) ?_
      refine lv_iload_n hx hb dX7_retry_27 rfl (lv_at hl 1 rfl) ?_
      refine va_put (D := D) (ci := 7) (v := .int p_x) (ty := .int) (C := RX7) (T := TX7) (N := 41) hx hb hts hi7 tyX7 tyX7_ok nmX7 hown hK hP hD hS 0 rfl rfl 32 (by decide) (hts (.fieldLink RX7 67 "GuardedCallsModel" "attempts" "I") (by decide +kernel)) (fun _ h9 => h9) rfl (by decide +kernel) rfl rfl (Nat.le_of_ble_eq_true rfl) dX7_retry_28 (fun H locs hP hD hS => ?_)
      have hP : va_P D vwCl (mw cI a (upd (upd mgI 0 0) 32 p_x) mdI mFI) H := hP
      have hD : va_D A (mw cI a (upd (upd mgI 0 0) 32 p_x) mdI mFI) := hD
      refine lv_aload_n hx hb dX7_retry_31 rfl (lv_at hl 0 rfl) ?_
      refine lv_iload_n hx hb dX7_retry_32 rfl (lv_at hl 2 rfl) ?_
      refine va_put (D := D) (ci := 7) (v := .int p_y) (ty := .int) (C := RX7) (T := TX7) (N := 41) hx hb hts hi7 tyX7 tyX7_ok nmX7 hown hK hP hD hS 0 rfl rfl 33 (by decide) (hts (.fieldLink RX7 70 "GuardedCallsModel" "again" "I") (by decide +kernel)) (fun _ h9 => h9) rfl (by decide +kernel) rfl rfl (Nat.le_of_ble_eq_true rfl) dX7_retry_33 (fun H locs hP hD hS => ?_)
      have hP : va_P D vwCl (mw cI a (upd (upd (upd mgI 0 0) 32 p_x) 33 p_y) mdI mFI) H := hP
      have hD : va_D A (mw cI a (upd (upd (upd mgI 0 0) 32 p_x) 33 p_y) mdI mFI) := hD
      refine lv_iconst (v := 1) hx hb dX7_retry_36 (by decide) ?_
      exact W.zret (v := 1) hx hb hr (rfl) (fun t ht hW => ⟨⟨_, (upd (upd (upd mgI 0 0) 32 p_x) 33 p_y, mdI, mFI), rfl, by simp [sp_retry, c2, c4], by rw [ht]; exact hP, hD⟩, hS.F ht⟩) hS.2.2 dX7_retry_37
    · refine lv_iconst (v := 0) hx hb dX7_retry_24 (by decide) ?_
      exact W.zret (v := 0) hx hb hr (rfl) (fun t ht hW => ⟨⟨_, (upd mgI 0 0, mdI, mFI), rfl, by simp [sp_retry, c2, c4], by rw [ht]; exact hP, hD⟩, hS.F ht⟩) hS.2.2 dX7_retry_25
set_option maxHeartbeats 4000000 in
set_option maxRecDepth 100000 in
theorem i_X7_backoff (l : Launch) (D : va_G) (cI : ClassId) (a : Nat → Nat) (sz : Nat) (p_f : UInt64) (p_t : UInt64) (p_m : UInt64) : Met l yX7_backoff wsX7_backoff ({ frames := 0, cells := 0, slots := 0, locals := 0 }) (gP (KM D cI) D (mw cI a mgI mdI mFI) sz [.ref (a 0), .double p_f, .double p_t, .double p_m]) (va_Qi (fun (r : Int32) (u : SS) => r = sp_back p_f p_t p_m) (gB D (wfM cI a) (va_A (mw cI a mgI mdI mFI) sz)) (va_A (mw cI a mgI mdI mFI) sz)) 0 0 (va_A (mw cI a mgI mdI mFI) sz) := by
  refine Met.ofW (cc := cX7_backoff) (maxL := 7) (ret := (some .boolean)) (by decide) rfl ?_
  intro p e s m args below meth c s₁ B hml hv
  obtain ⟨rfl, hsz, hP, hD0, hKK⟩ := hv
  have hx := B.exec
  have hb := B.bytes
  have hr := B.returns
  have hts := atoms_spec (ws := wsX7_backoff) B.pre
  have hown : s.vm.findClass RX7 = some m.cls := findClass_of_methodNamed B.named
  have hlocks := B.notSynchronized
  subst hsz
  have hK := hKK.1
  have hok := KM_ok D cI
  have hD := hD0.self (sz := s.heap.size)
  generalize hAe : va_A (mw cI a mgI mdI mFI) s.heap.size = A at hD ⊢
  have hi7 : ∀ w ∈ wsX70, w ∈ wsX7_backoff := fun w h => List.mem_cons_of_mem _ (List.mem_append_right _ h)
  have hA : ∀ q : Nat, s.heap.size ≤ q → A q := fun q h => by rw [← hAe]; exact Or.inr h
  have hS : va_S A s.heap s.heap [] := va_S.rf
  have hP : va_P D vwCl (mw cI a mgI mdI mFI) s.heap := hP
  have hl := lv_entry ([.ref ((a 0)), .double p_f, .double p_t, .double p_m]) (n := 7) (Nat.le_of_ble_eq_true rfl)
  rw [lg_entry_eq]
  generalize (lg_sl ([.ref ((a 0)), .double p_f, .double p_t, .double p_m]) ++ List.replicate (7 - (lg_sl ([.ref ((a 0)), .double p_f, .double p_t, .double p_m])).length) Slot.unset).toArray = ls at hl ⊢
  have hl : lv_has ls 7 [(0, .ref ((a 0))), (1, .double p_f), (3, .double p_t), (5, .double p_m)] := hl
  refine lv_aload_n hx hb dX7_backoff_0 rfl (lv_at hl 0 rfl) ?_
  refine lv_iconst (v := 0) hx hb dX7_backoff_1 (by decide) ?_
  refine va_put (D := D) (ci := 7) (v := .int 0) (ty := .int) (C := RX7) (T := TX7) (N := 41) hx hb hts hi7 tyX7 tyX7_ok nmX7 hown hK hP hD hS 0 rfl rfl 0 (by decide) (hts (.fieldLink RX7 96 "GuardedCallsModel" "thrown" "I") (by decide +kernel)) (fun _ h9 => h9) rfl (by decide +kernel) rfl rfl (Nat.le_of_ble_eq_true rfl) dX7_backoff_2 (fun H locs hP hD hS => ?_)
  have hP : va_P D vwCl (mw cI a (upd mgI 0 0) mdI mFI) H := hP
  have hD : va_D A (mw cI a (upd mgI 0 0) mdI mFI) := hD
  refine lv_dload_n hx hb dX7_backoff_5 rfl (lv_at hl 1 rfl) ?_
  refine lv_dconst0 hx hb dX7_backoff_6 ?_
  refine lv_dcmp hx hb dX7_backoff_7 ?_
  refine lv_if_lt (tgt := 51) hx hb dX7_backoff_8 (by decide) (fun c1 => ?_) (fun c1 => ?_)
  · refine lv_iconst (v := 0) hx hb dX7_backoff_51 (by decide) ?_
    exact W.zret (v := 0) hx hb hr (rfl) (fun t ht hW => ⟨⟨_, (upd mgI 0 0, mdI, mFI), rfl, by simp [sp_back, bb, c1], by rw [ht]; exact hP, hD⟩, hS.F ht⟩) hS.2.2 dX7_backoff_52
  · refine lv_dload_n hx hb dX7_backoff_11 rfl (lv_at hl 1 rfl) ?_
    refine lv_ldc2d (v := 4632233691727265792) hx hb hown (hts (.constantDouble RX7 38 (4632233691727265792)) (by decide +kernel)) dX7_backoff_12 ?_
    refine lv_dcmp hx hb dX7_backoff_15 ?_
    refine lv_if_gt (tgt := 51) hx hb dX7_backoff_16 (by decide) (fun c2 => ?_) (fun c2 => ?_)
    · refine lv_iconst (v := 0) hx hb dX7_backoff_51 (by decide) ?_
      exact W.zret (v := 0) hx hb hr (rfl) (fun t ht hW => ⟨⟨_, (upd mgI 0 0, mdI, mFI), rfl, by simp [sp_back, bb, c1, c2], by rw [ht]; exact hP, hD⟩, hS.F ht⟩) hS.2.2 dX7_backoff_52
    · refine lv_dload_n hx hb dX7_backoff_19 rfl (lv_at hl 2 rfl) ?_
      refine lv_ldc2d (v := 4602678819172646912) hx hb hown (hts (.constantDouble RX7 196 (4602678819172646912)) (by decide +kernel)) dX7_backoff_20 ?_
      refine lv_dcmp hx hb dX7_backoff_23 ?_
      refine lv_if_lt (tgt := 51) hx hb dX7_backoff_24 (by decide) (fun c3 => ?_) (fun c3 => ?_)
      · refine lv_iconst (v := 0) hx hb dX7_backoff_51 (by decide) ?_
        exact W.zret (v := 0) hx hb hr (rfl) (fun t ht hW => ⟨⟨_, (upd mgI 0 0, mdI, mFI), rfl, by simp [sp_back, bb, c1, c2, c3], by rw [ht]; exact hP, hD⟩, hS.F ht⟩) hS.2.2 dX7_backoff_52
      · refine lv_dload_n hx hb dX7_backoff_27 rfl (lv_at hl 2 rfl) ?_
        refine lv_ldc2d (v := 4616189618054758400) hx hb hown (hts (.constantDouble RX7 198 (4616189618054758400)) (by decide +kernel)) dX7_backoff_28 ?_
        refine lv_dcmp hx hb dX7_backoff_31 ?_
        refine lv_if_gt (tgt := 51) hx hb dX7_backoff_32 (by decide) (fun c4 => ?_) (fun c4 => ?_)
        · refine lv_iconst (v := 0) hx hb dX7_backoff_51 (by decide) ?_
          exact W.zret (v := 0) hx hb hr (rfl) (fun t ht hW => ⟨⟨_, (upd mgI 0 0, mdI, mFI), rfl, by simp [sp_back, bb, c1, c2, c3, c4], by rw [ht]; exact hP, hD⟩, hS.F ht⟩) hS.2.2 dX7_backoff_52
        · refine lv_dload hx hb dX7_backoff_35 (lv_at hl 3 rfl) ?_
          refine lv_dconst0 hx hb dX7_backoff_37 ?_
          refine lv_dcmp hx hb dX7_backoff_38 ?_
          refine lv_if_lt (tgt := 51) hx hb dX7_backoff_39 (by decide) (fun c5 => ?_) (fun c5 => ?_)
          · refine lv_iconst (v := 0) hx hb dX7_backoff_51 (by decide) ?_
            exact W.zret (v := 0) hx hb hr (rfl) (fun t ht hW => ⟨⟨_, (upd mgI 0 0, mdI, mFI), rfl, by simp [sp_back, bb, c1, c2, c3, c4, c5], by rw [ht]; exact hP, hD⟩, hS.F ht⟩) hS.2.2 dX7_backoff_52
          · refine lv_dload hx hb dX7_backoff_42 (lv_at hl 3 rfl) ?_
            refine lv_ldc2d (v := 4636737291354636288) hx hb hown (hts (.constantDouble RX7 44 (4636737291354636288)) (by decide +kernel)) dX7_backoff_44 ?_
            refine lv_dcmp hx hb dX7_backoff_47 ?_
            refine lv_if_le (tgt := 53) hx hb dX7_backoff_48 (by decide) (fun c6 => ?_) (fun c6 => ?_)
            · refine lv_aload_n hx hb dX7_backoff_53 rfl (lv_at hl 0 rfl) ?_
              refine lv_dload_n hx hb dX7_backoff_54 rfl (lv_at hl 1 rfl) ?_
              refine va_put (D := D) (ci := 7) (v := .double p_f) (ty := .double) (C := RX7) (T := TX7) (N := 41) hx hb hts hi7 tyX7 tyX7_ok nmX7 hown hK hP hD hS 0 rfl rfl 34 (by decide) (hts (.fieldLink RX7 73 "GuardedCallsModel" "first" "D") (by decide +kernel)) (fun _ h9 => h9) rfl (by decide +kernel) rfl rfl (Nat.le_of_ble_eq_true rfl) dX7_backoff_55 (fun H locs hP hD hS => ?_)
              have hP : va_P D vwCl (mw cI a (upd mgI 0 0) (vf_upd mdI 34 p_f) mFI) H := hP
              have hD : va_D A (mw cI a (upd mgI 0 0) (vf_upd mdI 34 p_f) mFI) := hD
              refine lv_aload_n hx hb dX7_backoff_58 rfl (lv_at hl 0 rfl) ?_
              refine lv_dload_n hx hb dX7_backoff_59 rfl (lv_at hl 2 rfl) ?_
              refine va_put (D := D) (ci := 7) (v := .double p_t) (ty := .double) (C := RX7) (T := TX7) (N := 41) hx hb hts hi7 tyX7 tyX7_ok nmX7 hown hK hP hD hS 0 rfl rfl 35 (by decide) (hts (.fieldLink RX7 78 "GuardedCallsModel" "times" "D") (by decide +kernel)) (fun _ h9 => h9) rfl (by decide +kernel) rfl rfl (Nat.le_of_ble_eq_true rfl) dX7_backoff_60 (fun H locs hP hD hS => ?_)
              have hP : va_P D vwCl (mw cI a (upd mgI 0 0) (vf_upd (vf_upd mdI 34 p_f) 35 p_t) mFI) H := hP
              have hD : va_D A (mw cI a (upd mgI 0 0) (vf_upd (vf_upd mdI 34 p_f) 35 p_t) mFI) := hD
              refine lv_aload_n hx hb dX7_backoff_63 rfl (lv_at hl 0 rfl) ?_
              refine lv_dload hx hb dX7_backoff_64 (lv_at hl 3 rfl) ?_
              refine va_put (D := D) (ci := 7) (v := .double p_m) (ty := .double) (C := RX7) (T := TX7) (N := 41) hx hb hts hi7 tyX7 tyX7_ok nmX7 hown hK hP hD hS 0 rfl rfl 36 (by decide) (hts (.fieldLink RX7 83 "GuardedCallsModel" "longest" "D") (by decide +kernel)) (fun _ h9 => h9) rfl (by decide +kernel) rfl rfl (Nat.le_of_ble_eq_true rfl) dX7_backoff_66 (fun H locs hP hD hS => ?_)
              have hP : va_P D vwCl (mw cI a (upd mgI 0 0) (vf_upd (vf_upd (vf_upd mdI 34 p_f) 35 p_t) 36 p_m) mFI) H := hP
              have hD : va_D A (mw cI a (upd mgI 0 0) (vf_upd (vf_upd (vf_upd mdI 34 p_f) 35 p_t) 36 p_m) mFI) := hD
              refine lv_iconst (v := 1) hx hb dX7_backoff_69 (by decide) ?_
              exact W.zret (v := 1) hx hb hr (rfl) (fun t ht hW => ⟨⟨_, (upd mgI 0 0, vf_upd (vf_upd (vf_upd mdI 34 p_f) 35 p_t) 36 p_m, mFI), rfl, by simp [sp_back, bb, c1, c2, c3, c4, c5, c6], by rw [ht]; exact hP, hD⟩, hS.F ht⟩) hS.2.2 dX7_backoff_70
            · refine lv_iconst (v := 0) hx hb dX7_backoff_51 (by decide) ?_
              exact W.zret (v := 0) hx hb hr (rfl) (fun t ht hW => ⟨⟨_, (upd mgI 0 0, mdI, mFI), rfl, by simp [sp_back, bb, c1, c2, c3, c4, c5, c6], by rw [ht]; exact hP, hD⟩, hS.F ht⟩) hS.2.2 dX7_backoff_52
set_option maxHeartbeats 4000000 in
set_option maxRecDepth 100000 in
theorem i_X7_timer (l : Launch) (D : va_G) (cI : ClassId) (a : Nat → Nat) (sz : Nat) (p_k : Int32) : Met l yX7_timer wsX7_timer ({ frames := 1, cells := 0, slots := 0, locals := 22 }) (gP (KM D cI) D (mw cI a mgI mdI mFI) sz [.ref (a 0), .int p_k]) (va_Qi (fun (r : Int32) (u : SS) => r = sp1 p_k 0 100) (gB D (wfM cI a) (va_A (mw cI a mgI mdI mFI) sz)) (va_A (mw cI a mgI mdI mFI) sz)) 0 0 (va_A (mw cI a mgI mdI mFI) sz) := by
  refine Met.ofW (cc := cX7_timer) (maxL := 2) (ret := (some .boolean)) (by decide) rfl ?_
  intro p e s m args below meth c s₁ B hml hv
  obtain ⟨rfl, hsz, hP, hD0, hKK⟩ := hv
  have hx := B.exec
  have hb := B.bytes
  have hr := B.returns
  have hts := atoms_spec (ws := wsX7_timer) B.pre
  have hown : s.vm.findClass RX7 = some m.cls := findClass_of_methodNamed B.named
  have hlocks := B.notSynchronized
  subst hsz
  have hK := hKK.1
  have hok := KM_ok D cI
  have hD := hD0.self (sz := s.heap.size)
  generalize hAe : va_A (mw cI a mgI mdI mFI) s.heap.size = A at hD ⊢
  have hi7 : ∀ w ∈ wsX70, w ∈ wsX7_timer := fun w h => List.mem_cons_of_mem _ (List.mem_append_right _ h)
  have hA : ∀ q : Nat, s.heap.size ≤ q → A q := fun q h => by rw [← hAe]; exact Or.inr h
  have hS : va_S A s.heap s.heap [] := va_S.rf
  have hP : va_P D vwCl (mw cI a mgI mdI mFI) s.heap := hP
  have hl := lv_entry ([.ref ((a 0)), .int p_k]) (n := 2) (Nat.le_of_ble_eq_true rfl)
  rw [lg_entry_eq]
  generalize (lg_sl ([.ref ((a 0)), .int p_k]) ++ List.replicate (2 - (lg_sl ([.ref ((a 0)), .int p_k])).length) Slot.unset).toArray = ls at hl ⊢
  have hl : lv_has ls 2 [(0, .ref ((a 0))), (1, .int p_k)] := hl
  refine lv_aload_n hx hb dX7_timer_0 rfl (lv_at hl 0 rfl) ?_
  refine lv_iconst (v := 0) hx hb dX7_timer_1 (by decide) ?_
  refine va_put (D := D) (ci := 7) (v := .int 0) (ty := .int) (C := RX7) (T := TX7) (N := 41) hx hb hts hi7 tyX7 tyX7_ok nmX7 hown hK hP hD hS 0 rfl rfl 0 (by decide) (hts (.fieldLink RX7 96 "GuardedCallsModel" "thrown" "I") (by decide +kernel)) (fun _ h9 => h9) rfl (by decide +kernel) rfl rfl (Nat.le_of_ble_eq_true rfl) dX7_timer_2 (fun H locs hP hD hS => ?_)
  have hP : va_P D vwCl (mw cI a (upd mgI 0 0) mdI mFI) H := hP
  have hD : va_D A (mw cI a (upd mgI 0 0) mdI mFI) := hD
  refine lv_iload_n hx hb dX7_timer_5 rfl (lv_at hl 1 rfl) ?_
  refine lv_iconst (v := 0) hx hb dX7_timer_6 (by decide) ?_
  refine lv_bipush (v := 100) hx hb dX7_timer_7 (by decide) ?_
  refine gc_si (As := [.int p_k, .int 0, .int 100]) (rest := []) ⟨hx, hb, hml, hown, hts⟩ hP hD hS hA (c_X7_in l _ p_k 0 100) (va_cwS 3 hts gX7_timer_X7_in rfl rfl rfl (by decide +kernel) ⟨Nat.le_of_ble_eq_true rfl, Nat.le_of_ble_eq_true rfl⟩) rfl hl.1 rfl (Nat.le_of_ble_eq_true rfl) dX7_timer_9 ⟨Nat.le_of_ble_eq_true rfl, Nat.le_of_ble_eq_true rfl⟩ (fun r1 H locs hw1 hP hS => ?_)
  subst hw1
  refine lv_if_ne (tgt := 17) hx hb dX7_timer_12 (by decide) (fun c2 => ?_) (fun c2 => ?_)
  · refine lv_aload_n hx hb dX7_timer_17 rfl (lv_at hl 0 rfl) ?_
    refine lv_iload_n hx hb dX7_timer_18 rfl (lv_at hl 1 rfl) ?_
    refine va_put (D := D) (ci := 7) (v := .int p_k) (ty := .int) (C := RX7) (T := TX7) (N := 41) hx hb hts hi7 tyX7 tyX7_ok nmX7 hown hK hP hD hS 0 rfl rfl 38 (by decide) (hts (.fieldLink RX7 86 "GuardedCallsModel" "span" "I") (by decide +kernel)) (fun _ h9 => h9) rfl (by decide +kernel) rfl rfl (Nat.le_of_ble_eq_true rfl) dX7_timer_19 (fun H locs hP hD hS => ?_)
    have hP : va_P D vwCl (mw cI a (upd (upd mgI 0 0) 38 p_k) mdI mFI) H := hP
    have hD : va_D A (mw cI a (upd (upd mgI 0 0) 38 p_k) mdI mFI) := hD
    refine lv_iconst (v := 1) hx hb dX7_timer_22 (by decide) ?_
    exact W.zret (v := 1) hx hb hr (rfl) (fun t ht hW => ⟨⟨_, (upd (upd mgI 0 0) 38 p_k, mdI, mFI), rfl, by simp [sp1, c2], by rw [ht]; exact hP, hD⟩, hS.F ht⟩) hS.2.2 dX7_timer_23
  · refine lv_iconst (v := 0) hx hb dX7_timer_15 (by decide) ?_
    exact W.zret (v := 0) hx hb hr (rfl) (fun t ht hW => ⟨⟨_, (upd mgI 0 0, mdI, mFI), rfl, by simp [sp1, c2], by rw [ht]; exact hP, hD⟩, hS.F ht⟩) hS.2.2 dX7_timer_16
set_option maxHeartbeats 4000000 in
set_option maxRecDepth 100000 in
theorem i_X7_lay (l : Launch) (D : va_G) (cI : ClassId) (a : Nat → Nat) (sz : Nat) (p_k : Int32) : Met l yX7_lay wsX7_lay ({ frames := 1, cells := 0, slots := 0, locals := 22 }) (gP (KM D cI) D (mw cI a mgI mdI mFI) sz [.ref (a 0), .int p_k]) (va_Qi (fun (r : Int32) (u : SS) => r = sp_lay0 p_k) (gB D (wfM cI a) (va_A (mw cI a mgI mdI mFI) sz)) (va_A (mw cI a mgI mdI mFI) sz)) 0 0 (va_A (mw cI a mgI mdI mFI) sz) := by
  refine Met.ofW (cc := cX7_lay) (maxL := 4) (ret := (some .int)) (by decide) rfl ?_
  intro p e s m args below meth c s₁ B hml hv
  obtain ⟨rfl, hsz, hP, hD0, hKK⟩ := hv
  have hx := B.exec
  have hb := B.bytes
  have hr := B.returns
  have hts := atoms_spec (ws := wsX7_lay) B.pre
  have hown : s.vm.findClass RX7 = some m.cls := findClass_of_methodNamed B.named
  have hlocks := B.notSynchronized
  subst hsz
  have hK := hKK.1
  have hok := KM_ok D cI
  have hD := hD0.self (sz := s.heap.size)
  generalize hAe : va_A (mw cI a mgI mdI mFI) s.heap.size = A at hD ⊢
  have hi7 : ∀ w ∈ wsX70, w ∈ wsX7_lay := fun w h => List.mem_cons_of_mem _ (List.mem_append_right _ h)
  have hA : ∀ q : Nat, s.heap.size ≤ q → A q := fun q h => by rw [← hAe]; exact Or.inr h
  have hS : va_S A s.heap s.heap [] := va_S.rf
  have hP : va_P D vwCl (mw cI a mgI mdI mFI) s.heap := hP
  have hl := lv_entry ([.ref ((a 0)), .int p_k]) (n := 4) (Nat.le_of_ble_eq_true rfl)
  rw [lg_entry_eq]
  generalize (lg_sl ([.ref ((a 0)), .int p_k]) ++ List.replicate (4 - (lg_sl ([.ref ((a 0)), .int p_k])).length) Slot.unset).toArray = ls at hl ⊢
  have hl : lv_has ls 4 [(0, .ref ((a 0))), (1, .int p_k)] := hl
  refine lv_aload_n hx hb dX7_lay_0 rfl (lv_at hl 0 rfl) ?_
  refine lv_iconst (v := 0) hx hb dX7_lay_1 (by decide) ?_
  refine va_put (D := D) (ci := 7) (v := .int 0) (ty := .int) (C := RX7) (T := TX7) (N := 41) hx hb hts hi7 tyX7 tyX7_ok nmX7 hown hK hP hD hS 0 rfl rfl 0 (by decide) (hts (.fieldLink RX7 96 "GuardedCallsModel" "thrown" "I") (by decide +kernel)) (fun _ h9 => h9) rfl (by decide +kernel) rfl rfl (Nat.le_of_ble_eq_true rfl) dX7_lay_2 (fun H locs hP hD hS => ?_)
  have hP : va_P D vwCl (mw cI a (upd mgI 0 0) mdI mFI) H := hP
  have hD : va_D A (mw cI a (upd mgI 0 0) mdI mFI) := hD
  refine lv_iconst (v := 0) hx hb dX7_lay_5 (by decide) ?_
  refine lv_istore_n (lv' := [(2, .int 0), (0, .ref ((a 0))), (1, .int p_k)]) hx hb dX7_lay_6 rfl hl (by decide) rfl (fun ls hl => ?_)
  refine lv_iconst (v := 0) hx hb dX7_lay_7 (by decide) ?_
  refine lv_istore_n (lv' := [(3, .int 0), (2, .int 0), (0, .ref ((a 0))), (1, .int p_k)]) hx hb dX7_lay_8 rfl hl (by decide) rfl (fun ls hl => ?_)
  refine lv_iload_n hx hb dX7_lay_9 rfl (lv_at hl 0 rfl) ?_
  refine lv_aload_n hx hb dX7_lay_10 rfl (lv_at hl 2 rfl) ?_
  refine va_get (D := D) (ci := 7) (v := .int 0) (C := RX7) (T := TX7) (N := 41) hx hb hts hi7 hown hK hP 0 rfl rfl 3 (by decide) (hts (.fieldLink RX7 174 "GuardedCallsModel" "height" "I") (by decide +kernel)) (fun _ h9 => h9) rfl dX7_lay_11 ?_
  refine lv_icmp_ge (tgt := 43) hx hb dX7_lay_14 (by decide) (fun c1 => ?_) (fun c1 => ?_)
  · refine lv_iload_n hx hb dX7_lay_43 rfl (lv_at hl 3 rfl) ?_
    refine lv_iconst (v := 0) hx hb dX7_lay_44 (by decide) ?_
    refine lv_iconst (v := 4) hx hb dX7_lay_45 (by decide) ?_
    refine gc_si (As := [.int p_k, .int 0, .int 4]) (rest := []) ⟨hx, hb, hml, hown, hts⟩ hP hD hS hA (c_X7_in l _ p_k 0 4) (va_cwS 3 hts gX7_lay_X7_in rfl rfl rfl (by decide +kernel) ⟨Nat.le_of_ble_eq_true rfl, Nat.le_of_ble_eq_true rfl⟩) rfl hl.1 rfl (Nat.le_of_ble_eq_true rfl) dX7_lay_46 ⟨Nat.le_of_ble_eq_true rfl, Nat.le_of_ble_eq_true rfl⟩ (fun r2 H locs hw2 hP hS => ?_)
    subst hw2
    refine lv_if_eq (tgt := 56) hx hb dX7_lay_49 (by decide) (fun c3 => ?_) (fun c3 => ?_)
    · refine lv_iconst (v := (-1)) hx hb dX7_lay_56 (by decide) ?_
      exact W.iret (v := ((-1))) hx hb hr (fun t ht hW => ⟨⟨_, (upd mgI 0 0, mdI, mFI), rfl, by simp [sp_lay0, c1, c3], by rw [ht]; exact hP, hD⟩, hS.F ht⟩) hS.2.2 dX7_lay_57
    · refine lv_iload_n hx hb dX7_lay_52 rfl (lv_at hl 1 rfl) ?_
      refine lv_if_eq (tgt := 58) hx hb dX7_lay_53 (by decide) (fun c4 => ?_) (fun c4 => ?_)
      · refine lv_aload_n hx hb dX7_lay_58 rfl (lv_at hl 2 rfl) ?_
        refine va_get (D := D) (ci := 7) (v := .ref ((a 1))) (C := RX7) (T := TX7) (N := 41) hx hb hts hi7 hown hK hP 0 rfl rfl 4 (by decide) (hts (.fieldLink RX7 7 "GuardedCallsModel" "stack" "[I") (by decide +kernel)) (fun _ h9 => h9) rfl dX7_lay_59 ?_
        refine lv_aload_n hx hb dX7_lay_62 rfl (lv_at hl 2 rfl) ?_
        refine va_get (D := D) (ci := 7) (v := .int 0) (C := RX7) (T := TX7) (N := 41) hx hb hts hi7 hown hK hP 0 rfl rfl 3 (by decide) (hts (.fieldLink RX7 174 "GuardedCallsModel" "height" "I") (by decide +kernel)) (fun _ h9 => h9) rfl dX7_lay_63 ?_
        refine lv_iload_n hx hb dX7_lay_66 rfl (lv_at hl 3 rfl) ?_
        refine va_iast (D := D) hx hb hK hP hD hS 1 0 (f := (mFI 0)) (n := 5) rfl rfl (by unfold vp_in; decide) dX7_lay_67 (fun H locs hP hD hS => ?_)
        have hP : va_P D vwCl (mw cI a (upd mgI 0 0) mdI (vf_upd mFI 0 (upd (mFI 0) (0 : Int32).toNatClampNeg p_k))) H := hP
        have hD : va_D A (mw cI a (upd mgI 0 0) mdI (vf_upd mFI 0 (upd (mFI 0) (0 : Int32).toNatClampNeg p_k))) := hD
        refine lv_aload_n hx hb dX7_lay_68 rfl (lv_at hl 2 rfl) ?_
        refine lv_aload_n hx hb dX7_lay_69 rfl (lv_at hl 2 rfl) ?_
        refine va_get (D := D) (ci := 7) (v := .int 0) (C := RX7) (T := TX7) (N := 41) hx hb hts hi7 hown hK hP 0 rfl rfl 3 (by decide) (hts (.fieldLink RX7 174 "GuardedCallsModel" "height" "I") (by decide +kernel)) (fun _ h9 => h9) rfl dX7_lay_70 ?_
        refine lv_iconst (v := 1) hx hb dX7_lay_73 (by decide) ?_
        refine lv_iadd hx hb dX7_lay_74 ?_
        refine lv_topi (fun x5 e5 => ?_)
        obtain rfl : x5 = 1 := e5.trans (by decide)
        refine va_put (D := D) (ci := 7) (v := .int 1) (ty := .int) (C := RX7) (T := TX7) (N := 41) hx hb hts hi7 tyX7 tyX7_ok nmX7 hown hK hP hD hS 0 rfl rfl 3 (by decide) (hts (.fieldLink RX7 174 "GuardedCallsModel" "height" "I") (by decide +kernel)) (fun _ h9 => h9) rfl (by decide +kernel) rfl rfl (Nat.le_of_ble_eq_true rfl) dX7_lay_75 (fun H locs hP hD hS => ?_)
        have hP : va_P D vwCl (mw cI a (upd (upd mgI 0 0) 3 1) mdI (vf_upd mFI 0 (upd (mFI 0) (0 : Int32).toNatClampNeg p_k))) H := hP
        have hD : va_D A (mw cI a (upd (upd mgI 0 0) 3 1) mdI (vf_upd mFI 0 (upd (mFI 0) (0 : Int32).toNatClampNeg p_k))) := hD
        refine lv_aload_n hx hb dX7_lay_78 rfl (lv_at hl 2 rfl) ?_
        refine va_get (D := D) (ci := 7) (v := .int 1) (C := RX7) (T := TX7) (N := 41) hx hb hts hi7 hown hK hP 0 rfl rfl 3 (by decide) (hts (.fieldLink RX7 174 "GuardedCallsModel" "height" "I") (by decide +kernel)) (fun _ h9 => h9) rfl dX7_lay_79 ?_
        exact W.iret (v := 1) hx hb hr (fun t ht hW => ⟨⟨_, (upd (upd mgI 0 0) 3 1, mdI, vf_upd mFI 0 (upd (mFI 0) (0 : Int32).toNatClampNeg p_k)), rfl, by simp [sp_lay0, c1, c3, c4], by rw [ht]; exact hP, hD⟩, hS.F ht⟩) hS.2.2 dX7_lay_82
      · exact absurd c4 (by decide)
  · exact absurd c1 (by decide)
set_option maxHeartbeats 4000000 in
set_option maxRecDepth 100000 in
theorem i_X7_strip (l : Launch) (D : va_G) (cI : ClassId) (a : Nat → Nat) (sz : Nat) : Met l yX7_strip wsX7_strip ({ frames := 0, cells := 0, slots := 0, locals := 0 }) (gP (KM D cI) D (mw cI a mgI mdI mFI) sz [.ref (a 0)]) (va_Qi (fun (r : Int32) (u : SS) => r = 0) (gB D (wfM cI a) (va_A (mw cI a mgI mdI mFI) sz)) (va_A (mw cI a mgI mdI mFI) sz)) 0 0 (va_A (mw cI a mgI mdI mFI) sz) := by
  refine Met.ofW (cc := cX7_strip) (maxL := 2) (ret := (some .int)) (by decide) rfl ?_
  intro p e s m args below meth c s₁ B hml hv
  obtain ⟨rfl, hsz, hP, hD0, hKK⟩ := hv
  have hx := B.exec
  have hb := B.bytes
  have hr := B.returns
  have hts := atoms_spec (ws := wsX7_strip) B.pre
  have hown : s.vm.findClass RX7 = some m.cls := findClass_of_methodNamed B.named
  have hlocks := B.notSynchronized
  subst hsz
  have hK := hKK.1
  have hok := KM_ok D cI
  have hD := hD0.self (sz := s.heap.size)
  generalize hAe : va_A (mw cI a mgI mdI mFI) s.heap.size = A at hD ⊢
  have hi7 : ∀ w ∈ wsX70, w ∈ wsX7_strip := fun w h => List.mem_cons_of_mem _ (List.mem_append_right _ h)
  have hA : ∀ q : Nat, s.heap.size ≤ q → A q := fun q h => by rw [← hAe]; exact Or.inr h
  have hS : va_S A s.heap s.heap [] := va_S.rf
  have hP : va_P D vwCl (mw cI a mgI mdI mFI) s.heap := hP
  have hl := lv_entry ([.ref ((a 0))]) (n := 2) (Nat.le_of_ble_eq_true rfl)
  rw [lg_entry_eq]
  generalize (lg_sl ([.ref ((a 0))]) ++ List.replicate (2 - (lg_sl ([.ref ((a 0))])).length) Slot.unset).toArray = ls at hl ⊢
  have hl : lv_has ls 2 [(0, .ref ((a 0)))] := hl
  refine lv_aload_n hx hb dX7_strip_0 rfl (lv_at hl 0 rfl) ?_
  refine lv_iconst (v := 0) hx hb dX7_strip_1 (by decide) ?_
  refine va_put (D := D) (ci := 7) (v := .int 0) (ty := .int) (C := RX7) (T := TX7) (N := 41) hx hb hts hi7 tyX7 tyX7_ok nmX7 hown hK hP hD hS 0 rfl rfl 0 (by decide) (hts (.fieldLink RX7 96 "GuardedCallsModel" "thrown" "I") (by decide +kernel)) (fun _ h9 => h9) rfl (by decide +kernel) rfl rfl (Nat.le_of_ble_eq_true rfl) dX7_strip_2 (fun H locs hP hD hS => ?_)
  have hP : va_P D vwCl (mw cI a (upd mgI 0 0) mdI mFI) H := hP
  have hD : va_D A (mw cI a (upd mgI 0 0) mdI mFI) := hD
  refine lv_aload_n hx hb dX7_strip_5 rfl (lv_at hl 0 rfl) ?_
  refine va_get (D := D) (ci := 7) (v := .int 0) (C := RX7) (T := TX7) (N := 41) hx hb hts hi7 hown hK hP 0 rfl rfl 3 (by decide) (hts (.fieldLink RX7 174 "GuardedCallsModel" "height" "I") (by decide +kernel)) (fun _ h9 => h9) rfl dX7_strip_6 ?_
  refine lv_istore_n (lv' := [(1, .int 0), (0, .ref ((a 0)))]) hx hb dX7_strip_9 rfl hl (by decide) rfl (fun ls hl => ?_)
  refine lv_aload_n hx hb dX7_strip_10 rfl (lv_at hl 1 rfl) ?_
  refine lv_iconst (v := 0) hx hb dX7_strip_11 (by decide) ?_
  refine va_put (D := D) (ci := 7) (v := .int 0) (ty := .int) (C := RX7) (T := TX7) (N := 41) hx hb hts hi7 tyX7 tyX7_ok nmX7 hown hK hP hD hS 0 rfl rfl 3 (by decide) (hts (.fieldLink RX7 174 "GuardedCallsModel" "height" "I") (by decide +kernel)) (fun _ h9 => h9) rfl (by decide +kernel) rfl rfl (Nat.le_of_ble_eq_true rfl) dX7_strip_12 (fun H locs hP hD hS => ?_)
  have hP : va_P D vwCl (mw cI a (upd (upd mgI 0 0) 3 0) mdI mFI) H := hP
  have hD : va_D A (mw cI a (upd (upd mgI 0 0) 3 0) mdI mFI) := hD
  refine lv_iload_n hx hb dX7_strip_15 rfl (lv_at hl 0 rfl) ?_
  exact W.iret (v := 0) hx hb hr (fun t ht hW => ⟨⟨_, (upd (upd mgI 0 0) 3 0, mdI, mFI), rfl, rfl, by rw [ht]; exact hP, hD⟩, hS.F ht⟩) hS.2.2 dX7_strip_16
set_option maxHeartbeats 4000000 in
set_option maxRecDepth 100000 in
theorem i_X7_outcome (l : Launch) (D : va_G) (cI : ClassId) (a : Nat → Nat) (sz : Nat) (p_x : Int32) (p_y : Int32) (p_z : Int32) : Met l yX7_outcome wsX7_outcome ({ frames := 1, cells := 0, slots := 0, locals := 22 }) (gP (KM D cI) D (mw cI a mgI mdI mFI) sz [.ref (a 0), .int p_x, .int p_y, .int p_z]) (va_Qi (fun (r : Int32) (u : SS) => r = sp_out p_x p_y) (gB D (wfM cI a) (va_A (mw cI a mgI mdI mFI) sz)) (va_A (mw cI a mgI mdI mFI) sz)) 0 0 (va_A (mw cI a mgI mdI mFI) sz) := by
  refine Met.ofW (cc := cX7_outcome) (maxL := 4) (ret := (some .boolean)) (by decide) rfl ?_
  intro p e s m args below meth c s₁ B hml hv
  obtain ⟨rfl, hsz, hP, hD0, hKK⟩ := hv
  have hx := B.exec
  have hb := B.bytes
  have hr := B.returns
  have hts := atoms_spec (ws := wsX7_outcome) B.pre
  have hown : s.vm.findClass RX7 = some m.cls := findClass_of_methodNamed B.named
  have hlocks := B.notSynchronized
  subst hsz
  have hK := hKK.1
  have hok := KM_ok D cI
  have hD := hD0.self (sz := s.heap.size)
  generalize hAe : va_A (mw cI a mgI mdI mFI) s.heap.size = A at hD ⊢
  have hi7 : ∀ w ∈ wsX70, w ∈ wsX7_outcome := fun w h => List.mem_cons_of_mem _ (List.mem_append_right _ h)
  have hA : ∀ q : Nat, s.heap.size ≤ q → A q := fun q h => by rw [← hAe]; exact Or.inr h
  have hS : va_S A s.heap s.heap [] := va_S.rf
  have hP : va_P D vwCl (mw cI a mgI mdI mFI) s.heap := hP
  have hl := lv_entry ([.ref ((a 0)), .int p_x, .int p_y, .int p_z]) (n := 4) (Nat.le_of_ble_eq_true rfl)
  rw [lg_entry_eq]
  generalize (lg_sl ([.ref ((a 0)), .int p_x, .int p_y, .int p_z]) ++ List.replicate (4 - (lg_sl ([.ref ((a 0)), .int p_x, .int p_y, .int p_z])).length) Slot.unset).toArray = ls at hl ⊢
  have hl : lv_has ls 4 [(0, .ref ((a 0))), (1, .int p_x), (2, .int p_y), (3, .int p_z)] := hl
  refine lv_aload_n hx hb dX7_outcome_0 rfl (lv_at hl 0 rfl) ?_
  refine lv_iconst (v := 0) hx hb dX7_outcome_1 (by decide) ?_
  refine va_put (D := D) (ci := 7) (v := .int 0) (ty := .int) (C := RX7) (T := TX7) (N := 41) hx hb hts hi7 tyX7 tyX7_ok nmX7 hown hK hP hD hS 0 rfl rfl 0 (by decide) (hts (.fieldLink RX7 96 "GuardedCallsModel" "thrown" "I") (by decide +kernel)) (fun _ h9 => h9) rfl (by decide +kernel) rfl rfl (Nat.le_of_ble_eq_true rfl) dX7_outcome_2 (fun H locs hP hD hS => ?_)
  have hP : va_P D vwCl (mw cI a (upd mgI 0 0) mdI mFI) H := hP
  have hD : va_D A (mw cI a (upd mgI 0 0) mdI mFI) := hD
  refine lv_iload_n hx hb dX7_outcome_5 rfl (lv_at hl 1 rfl) ?_
  refine lv_iconst (v := 0) hx hb dX7_outcome_6 (by decide) ?_
  refine lv_iconst (v := 2) hx hb dX7_outcome_7 (by decide) ?_
  refine gc_si (As := [.int p_x, .int 0, .int 2]) (rest := []) ⟨hx, hb, hml, hown, hts⟩ hP hD hS hA (c_X7_in l _ p_x 0 2) (va_cwS 3 hts gX7_outcome_X7_in rfl rfl rfl (by decide +kernel) ⟨Nat.le_of_ble_eq_true rfl, Nat.le_of_ble_eq_true rfl⟩) rfl hl.1 rfl (Nat.le_of_ble_eq_true rfl) dX7_outcome_8 ⟨Nat.le_of_ble_eq_true rfl, Nat.le_of_ble_eq_true rfl⟩ (fun r1 H locs hw1 hP hS => ?_)
  subst hw1
  refine lv_if_eq (tgt := 33) hx hb dX7_outcome_11 (by decide) (fun c2 => ?_) (fun c2 => ?_)
  · refine lv_iconst (v := 0) hx hb dX7_outcome_33 (by decide) ?_
    exact W.zret (v := 0) hx hb hr (rfl) (fun t ht hW => ⟨⟨_, (upd mgI 0 0, mdI, mFI), rfl, by simp [sp_out, c2], by rw [ht]; exact hP, hD⟩, hS.F ht⟩) hS.2.2 dX7_outcome_34
  · refine lv_iload_n hx hb dX7_outcome_14 rfl (lv_at hl 2 rfl) ?_
    refine lv_iconst (v := 0) hx hb dX7_outcome_15 (by decide) ?_
    refine lv_bipush (v := 50) hx hb dX7_outcome_16 (by decide) ?_
    refine gc_si (As := [.int p_y, .int 0, .int 50]) (rest := []) ⟨hx, hb, hml, hown, hts⟩ hP hD hS hA (c_X7_in l _ p_y 0 50) (va_cwS 3 hts gX7_outcome_X7_in rfl rfl rfl (by decide +kernel) ⟨Nat.le_of_ble_eq_true rfl, Nat.le_of_ble_eq_true rfl⟩) rfl hl.1 rfl (Nat.le_of_ble_eq_true rfl) dX7_outcome_18 ⟨Nat.le_of_ble_eq_true rfl, Nat.le_of_ble_eq_true rfl⟩ (fun r3 H locs hw3 hP hS => ?_)
    subst hw3
    refine lv_if_eq (tgt := 33) hx hb dX7_outcome_21 (by decide) (fun c4 => ?_) (fun c4 => ?_)
    · refine lv_iconst (v := 0) hx hb dX7_outcome_33 (by decide) ?_
      exact W.zret (v := 0) hx hb hr (rfl) (fun t ht hW => ⟨⟨_, (upd mgI 0 0, mdI, mFI), rfl, by simp [sp_out, c2, c4], by rw [ht]; exact hP, hD⟩, hS.F ht⟩) hS.2.2 dX7_outcome_34
    · refine lv_aload_n hx hb dX7_outcome_24 rfl (lv_at hl 0 rfl) ?_
      refine va_get (D := D) (ci := 7) (v := .int 0) (C := RX7) (T := TX7) (N := 41) hx hb hts hi7 hown hK hP 0 rfl rfl 7 (by decide) (hts (.fieldLink RX7 160 "GuardedCallsModel" "outcomes" "I") (by decide +kernel)) (fun _ h9 => h9) rfl dX7_outcome_25 ?_
      refine lv_bipush (v := 20) hx hb dX7_outcome_28 (by decide) ?_
      refine lv_icmp_lt (tgt := 35) hx hb dX7_outcome_30 (by decide) (fun c5 => ?_) (fun c5 => ?_)
      · refine lv_aload_n hx hb dX7_outcome_35 rfl (lv_at hl 0 rfl) ?_
        refine va_get (D := D) (ci := 7) (v := .ref ((a 2))) (C := RX7) (T := TX7) (N := 41) hx hb hts hi7 hown hK hP 0 rfl rfl 8 (by decide) (hts (.fieldLink RX7 13 "GuardedCallsModel" "ways" "[I") (by decide +kernel)) (fun _ h9 => h9) rfl dX7_outcome_36 ?_
        refine lv_aload_n hx hb dX7_outcome_39 rfl (lv_at hl 0 rfl) ?_
        refine va_get (D := D) (ci := 7) (v := .int 0) (C := RX7) (T := TX7) (N := 41) hx hb hts hi7 hown hK hP 0 rfl rfl 7 (by decide) (hts (.fieldLink RX7 160 "GuardedCallsModel" "outcomes" "I") (by decide +kernel)) (fun _ h9 => h9) rfl dX7_outcome_40 ?_
        refine lv_iload_n hx hb dX7_outcome_43 rfl (lv_at hl 1 rfl) ?_
        refine va_iast (D := D) hx hb hK hP hD hS 2 0 (f := (mFI 1)) (n := 20) rfl rfl (by unfold vp_in; decide) dX7_outcome_44 (fun H locs hP hD hS => ?_)
        have hP : va_P D vwCl (mw cI a (upd mgI 0 0) mdI (vf_upd mFI 1 (upd (mFI 1) (0 : Int32).toNatClampNeg p_x))) H := hP
        have hD : va_D A (mw cI a (upd mgI 0 0) mdI (vf_upd mFI 1 (upd (mFI 1) (0 : Int32).toNatClampNeg p_x))) := hD
        refine lv_aload_n hx hb dX7_outcome_45 rfl (lv_at hl 0 rfl) ?_
        refine va_get (D := D) (ci := 7) (v := .ref ((a 3))) (C := RX7) (T := TX7) (N := 41) hx hb hts hi7 hown hK hP 0 rfl rfl 9 (by decide) (hts (.fieldLink RX7 16 "GuardedCallsModel" "latencies" "[I") (by decide +kernel)) (fun _ h9 => h9) rfl dX7_outcome_46 ?_
        refine lv_aload_n hx hb dX7_outcome_49 rfl (lv_at hl 0 rfl) ?_
        refine va_get (D := D) (ci := 7) (v := .int 0) (C := RX7) (T := TX7) (N := 41) hx hb hts hi7 hown hK hP 0 rfl rfl 7 (by decide) (hts (.fieldLink RX7 160 "GuardedCallsModel" "outcomes" "I") (by decide +kernel)) (fun _ h9 => h9) rfl dX7_outcome_50 ?_
        refine lv_iload_n hx hb dX7_outcome_53 rfl (lv_at hl 2 rfl) ?_
        refine va_iast (D := D) hx hb hK hP hD hS 3 0 (f := (mFI 2)) (n := 20) rfl rfl (by unfold vp_in; decide) dX7_outcome_54 (fun H locs hP hD hS => ?_)
        have hP : va_P D vwCl (mw cI a (upd mgI 0 0) mdI (vf_upd (vf_upd mFI 1 (upd (mFI 1) (0 : Int32).toNatClampNeg p_x)) 2 (upd (mFI 2) (0 : Int32).toNatClampNeg p_y))) H := hP
        have hD : va_D A (mw cI a (upd mgI 0 0) mdI (vf_upd (vf_upd mFI 1 (upd (mFI 1) (0 : Int32).toNatClampNeg p_x)) 2 (upd (mFI 2) (0 : Int32).toNatClampNeg p_y))) := hD
        refine lv_aload_n hx hb dX7_outcome_55 rfl (lv_at hl 0 rfl) ?_
        refine va_get (D := D) (ci := 7) (v := .ref ((a 4))) (C := RX7) (T := TX7) (N := 41) hx hb hts hi7 hown hK hP 0 rfl rfl 10 (by decide) (hts (.fieldLink RX7 19 "GuardedCallsModel" "values" "[I") (by decide +kernel)) (fun _ h9 => h9) rfl dX7_outcome_56 ?_
        refine lv_aload_n hx hb dX7_outcome_59 rfl (lv_at hl 0 rfl) ?_
        refine va_get (D := D) (ci := 7) (v := .int 0) (C := RX7) (T := TX7) (N := 41) hx hb hts hi7 hown hK hP 0 rfl rfl 7 (by decide) (hts (.fieldLink RX7 160 "GuardedCallsModel" "outcomes" "I") (by decide +kernel)) (fun _ h9 => h9) rfl dX7_outcome_60 ?_
        refine lv_iload_n hx hb dX7_outcome_63 rfl (lv_at hl 3 rfl) ?_
        refine va_iast (D := D) hx hb hK hP hD hS 4 0 (f := (mFI 3)) (n := 20) rfl rfl (by unfold vp_in; decide) dX7_outcome_64 (fun H locs hP hD hS => ?_)
        have hP : va_P D vwCl (mw cI a (upd mgI 0 0) mdI (vf_upd (vf_upd (vf_upd mFI 1 (upd (mFI 1) (0 : Int32).toNatClampNeg p_x)) 2 (upd (mFI 2) (0 : Int32).toNatClampNeg p_y)) 3 (upd (mFI 3) (0 : Int32).toNatClampNeg p_z))) H := hP
        have hD : va_D A (mw cI a (upd mgI 0 0) mdI (vf_upd (vf_upd (vf_upd mFI 1 (upd (mFI 1) (0 : Int32).toNatClampNeg p_x)) 2 (upd (mFI 2) (0 : Int32).toNatClampNeg p_y)) 3 (upd (mFI 3) (0 : Int32).toNatClampNeg p_z))) := hD
        refine lv_aload_n hx hb dX7_outcome_65 rfl (lv_at hl 0 rfl) ?_
        refine lv_aload_n hx hb dX7_outcome_66 rfl (lv_at hl 0 rfl) ?_
        refine va_get (D := D) (ci := 7) (v := .int 0) (C := RX7) (T := TX7) (N := 41) hx hb hts hi7 hown hK hP 0 rfl rfl 7 (by decide) (hts (.fieldLink RX7 160 "GuardedCallsModel" "outcomes" "I") (by decide +kernel)) (fun _ h9 => h9) rfl dX7_outcome_67 ?_
        refine lv_iconst (v := 1) hx hb dX7_outcome_70 (by decide) ?_
        refine lv_iadd hx hb dX7_outcome_71 ?_
        refine lv_topi (fun x6 e6 => ?_)
        obtain rfl : x6 = 1 := e6.trans (by decide)
        refine va_put (D := D) (ci := 7) (v := .int 1) (ty := .int) (C := RX7) (T := TX7) (N := 41) hx hb hts hi7 tyX7 tyX7_ok nmX7 hown hK hP hD hS 0 rfl rfl 7 (by decide) (hts (.fieldLink RX7 160 "GuardedCallsModel" "outcomes" "I") (by decide +kernel)) (fun _ h9 => h9) rfl (by decide +kernel) rfl rfl (Nat.le_of_ble_eq_true rfl) dX7_outcome_72 (fun H locs hP hD hS => ?_)
        have hP : va_P D vwCl (mw cI a (upd (upd mgI 0 0) 7 1) mdI (vf_upd (vf_upd (vf_upd mFI 1 (upd (mFI 1) (0 : Int32).toNatClampNeg p_x)) 2 (upd (mFI 2) (0 : Int32).toNatClampNeg p_y)) 3 (upd (mFI 3) (0 : Int32).toNatClampNeg p_z))) H := hP
        have hD : va_D A (mw cI a (upd (upd mgI 0 0) 7 1) mdI (vf_upd (vf_upd (vf_upd mFI 1 (upd (mFI 1) (0 : Int32).toNatClampNeg p_x)) 2 (upd (mFI 2) (0 : Int32).toNatClampNeg p_y)) 3 (upd (mFI 3) (0 : Int32).toNatClampNeg p_z))) := hD
        refine lv_iconst (v := 1) hx hb dX7_outcome_75 (by decide) ?_
        exact W.zret (v := 1) hx hb hr (rfl) (fun t ht hW => ⟨⟨_, (upd (upd mgI 0 0) 7 1, mdI, vf_upd (vf_upd (vf_upd mFI 1 (upd (mFI 1) (0 : Int32).toNatClampNeg p_x)) 2 (upd (mFI 2) (0 : Int32).toNatClampNeg p_y)) 3 (upd (mFI 3) (0 : Int32).toNatClampNeg p_z)), rfl, by simp [sp_out, c2, c4, c5], by rw [ht]; exact hP, hD⟩, hS.F ht⟩) hS.2.2 dX7_outcome_76
      · exact absurd c5 (by decide)
set_option maxHeartbeats 4000000 in
set_option maxRecDepth 100000 in
theorem i_X7_pass (l : Launch) (D : va_G) (cI : ClassId) (a : Nat → Nat) (sz : Nat) (p_k : Int32) : Met l yX7_pass wsX7_pass ({ frames := 1, cells := 0, slots := 0, locals := 22 }) (gP (KM D cI) D (mw cI a mgI mdI mFI) sz [.ref (a 0), .int p_k]) (va_Qi (fun (r : Int32) (u : SS) => r = sp1 p_k 0 100) (gB D (wfM cI a) (va_A (mw cI a mgI mdI mFI) sz)) (va_A (mw cI a mgI mdI mFI) sz)) 0 0 (va_A (mw cI a mgI mdI mFI) sz) := by
  refine Met.ofW (cc := cX7_pass) (maxL := 2) (ret := (some .boolean)) (by decide) rfl ?_
  intro p e s m args below meth c s₁ B hml hv
  obtain ⟨rfl, hsz, hP, hD0, hKK⟩ := hv
  have hx := B.exec
  have hb := B.bytes
  have hr := B.returns
  have hts := atoms_spec (ws := wsX7_pass) B.pre
  have hown : s.vm.findClass RX7 = some m.cls := findClass_of_methodNamed B.named
  have hlocks := B.notSynchronized
  subst hsz
  have hK := hKK.1
  have hok := KM_ok D cI
  have hD := hD0.self (sz := s.heap.size)
  generalize hAe : va_A (mw cI a mgI mdI mFI) s.heap.size = A at hD ⊢
  have hi7 : ∀ w ∈ wsX70, w ∈ wsX7_pass := fun w h => List.mem_cons_of_mem _ (List.mem_append_right _ h)
  have hA : ∀ q : Nat, s.heap.size ≤ q → A q := fun q h => by rw [← hAe]; exact Or.inr h
  have hS : va_S A s.heap s.heap [] := va_S.rf
  have hP : va_P D vwCl (mw cI a mgI mdI mFI) s.heap := hP
  have hl := lv_entry ([.ref ((a 0)), .int p_k]) (n := 2) (Nat.le_of_ble_eq_true rfl)
  rw [lg_entry_eq]
  generalize (lg_sl ([.ref ((a 0)), .int p_k]) ++ List.replicate (2 - (lg_sl ([.ref ((a 0)), .int p_k])).length) Slot.unset).toArray = ls at hl ⊢
  have hl : lv_has ls 2 [(0, .ref ((a 0))), (1, .int p_k)] := hl
  refine lv_aload_n hx hb dX7_pass_0 rfl (lv_at hl 0 rfl) ?_
  refine lv_iconst (v := 0) hx hb dX7_pass_1 (by decide) ?_
  refine va_put (D := D) (ci := 7) (v := .int 0) (ty := .int) (C := RX7) (T := TX7) (N := 41) hx hb hts hi7 tyX7 tyX7_ok nmX7 hown hK hP hD hS 0 rfl rfl 0 (by decide) (hts (.fieldLink RX7 96 "GuardedCallsModel" "thrown" "I") (by decide +kernel)) (fun _ h9 => h9) rfl (by decide +kernel) rfl rfl (Nat.le_of_ble_eq_true rfl) dX7_pass_2 (fun H locs hP hD hS => ?_)
  have hP : va_P D vwCl (mw cI a (upd mgI 0 0) mdI mFI) H := hP
  have hD : va_D A (mw cI a (upd mgI 0 0) mdI mFI) := hD
  refine lv_iload_n hx hb dX7_pass_5 rfl (lv_at hl 1 rfl) ?_
  refine lv_iconst (v := 0) hx hb dX7_pass_6 (by decide) ?_
  refine lv_bipush (v := 100) hx hb dX7_pass_7 (by decide) ?_
  refine gc_si (As := [.int p_k, .int 0, .int 100]) (rest := []) ⟨hx, hb, hml, hown, hts⟩ hP hD hS hA (c_X7_in l _ p_k 0 100) (va_cwS 3 hts gX7_pass_X7_in rfl rfl rfl (by decide +kernel) ⟨Nat.le_of_ble_eq_true rfl, Nat.le_of_ble_eq_true rfl⟩) rfl hl.1 rfl (Nat.le_of_ble_eq_true rfl) dX7_pass_9 ⟨Nat.le_of_ble_eq_true rfl, Nat.le_of_ble_eq_true rfl⟩ (fun r1 H locs hw1 hP hS => ?_)
  subst hw1
  refine lv_if_ne (tgt := 17) hx hb dX7_pass_12 (by decide) (fun c2 => ?_) (fun c2 => ?_)
  · refine lv_aload_n hx hb dX7_pass_17 rfl (lv_at hl 0 rfl) ?_
    refine lv_aload_n hx hb dX7_pass_18 rfl (lv_at hl 0 rfl) ?_
    refine va_get (D := D) (ci := 7) (v := .int 0) (C := RX7) (T := TX7) (N := 41) hx hb hts hi7 hown hK hP 0 rfl rfl 1 (by decide) (hts (.fieldLink RX7 102 "GuardedCallsModel" "clock" "I") (by decide +kernel)) (fun _ h9 => h9) rfl dX7_pass_19 ?_
    refine lv_iload_n hx hb dX7_pass_22 rfl (lv_at hl 1 rfl) ?_
    refine lv_iadd hx hb dX7_pass_23 ?_
    refine lv_topi (fun x3 e3 => ?_)
    refine va_put (D := D) (ci := 7) (v := .int x3) (ty := .int) (C := RX7) (T := TX7) (N := 41) hx hb hts hi7 tyX7 tyX7_ok nmX7 hown hK hP hD hS 0 rfl rfl 1 (by decide) (hts (.fieldLink RX7 102 "GuardedCallsModel" "clock" "I") (by decide +kernel)) (fun _ h9 => h9) rfl (by decide +kernel) rfl rfl (Nat.le_of_ble_eq_true rfl) dX7_pass_24 (fun H locs hP hD hS => ?_)
    have hP : va_P D vwCl (mw cI a (upd (upd mgI 0 0) 1 x3) mdI mFI) H := hP
    have hD : va_D A (mw cI a (upd (upd mgI 0 0) 1 x3) mdI mFI) := hD
    refine lv_iconst (v := 1) hx hb dX7_pass_27 (by decide) ?_
    exact W.zret (v := 1) hx hb hr (rfl) (fun t ht hW => ⟨⟨_, (upd (upd mgI 0 0) 1 x3, mdI, mFI), rfl, by simp [sp1, c2], by rw [ht]; exact hP, hD⟩, hS.F ht⟩) hS.2.2 dX7_pass_28
  · refine lv_iconst (v := 0) hx hb dX7_pass_15 (by decide) ?_
    exact W.zret (v := 0) hx hb hr (rfl) (fun t ht hW => ⟨⟨_, (upd mgI 0 0, mdI, mFI), rfl, by simp [sp1, c2], by rw [ht]; exact hP, hD⟩, hS.F ht⟩) hS.2.2 dX7_pass_16
set_option maxHeartbeats 4000000 in
set_option maxRecDepth 100000 in
theorem i_X7_supply (l : Launch) (D : va_G) (cI : ClassId) (a : Nat → Nat) (sz : Nat) : Met l yX7_supply wsX7_supply ({ frames := 1, cells := 0, slots := 0, locals := 22 }) (gP (KM D cI) D (mw cI a mgI mdI mFI) sz [.ref (a 0)]) (va_Qi (fun (r : Int32) (u : SS) => r = 0 ∧ u.1 6 = 0 ∧ u.1 3 = 0) (gB D (wfM cI a) (va_A (mw cI a mgI mdI mFI) sz)) (va_A (mw cI a mgI mdI mFI) sz)) 0 0 (va_A (mw cI a mgI mdI mFI) sz) := by
  refine Met.ofW (cc := cX7_supply) (maxL := 4) (ret := (some .int)) (by decide) rfl ?_
  intro p e s m args below meth c s₁ B hml hv
  obtain ⟨rfl, hsz, hP, hD0, hKK⟩ := hv
  have hx := B.exec
  have hb := B.bytes
  have hr := B.returns
  have hts := atoms_spec (ws := wsX7_supply) B.pre
  have hown : s.vm.findClass RX7 = some m.cls := findClass_of_methodNamed B.named
  have hlocks := B.notSynchronized
  subst hsz
  have hK := hKK.1
  have hok := KM_ok D cI
  have hD := hD0.self (sz := s.heap.size)
  generalize hAe : va_A (mw cI a mgI mdI mFI) s.heap.size = A at hD ⊢
  have hi7 : ∀ w ∈ wsX70, w ∈ wsX7_supply := fun w h => List.mem_cons_of_mem _ (List.mem_append_right _ h)
  have hA : ∀ q : Nat, s.heap.size ≤ q → A q := fun q h => by rw [← hAe]; exact Or.inr h
  have hS : va_S A s.heap s.heap [] := va_S.rf
  have hP : va_P D vwCl (mw cI a mgI mdI mFI) s.heap := hP
  have hl := lv_entry ([.ref ((a 0))]) (n := 4) (Nat.le_of_ble_eq_true rfl)
  rw [lg_entry_eq]
  generalize (lg_sl ([.ref ((a 0))]) ++ List.replicate (4 - (lg_sl ([.ref ((a 0))])).length) Slot.unset).toArray = ls at hl ⊢
  have hl : lv_has ls 4 [(0, .ref ((a 0)))] := hl
  refine lv_aload_n hx hb dX7_supply_0 rfl (lv_at hl 0 rfl) ?_
  refine lv_aload_n hx hb dX7_supply_1 rfl (lv_at hl 0 rfl) ?_
  refine va_get (D := D) (ci := 7) (v := .int 0) (C := RX7) (T := TX7) (N := 41) hx hb hts hi7 hown hK hP 0 rfl rfl 5 (by decide) (hts (.fieldLink RX7 154 "GuardedCallsModel" "calls" "I") (by decide +kernel)) (fun _ h9 => h9) rfl dX7_supply_2 ?_
  refine lv_iconst (v := 1) hx hb dX7_supply_5 (by decide) ?_
  refine lv_iadd hx hb dX7_supply_6 ?_
  refine lv_topi (fun x1 e1 => ?_)
  obtain rfl : x1 = 1 := e1.trans (by decide)
  refine va_put (D := D) (ci := 7) (v := .int 1) (ty := .int) (C := RX7) (T := TX7) (N := 41) hx hb hts hi7 tyX7 tyX7_ok nmX7 hown hK hP hD hS 0 rfl rfl 5 (by decide) (hts (.fieldLink RX7 154 "GuardedCallsModel" "calls" "I") (by decide +kernel)) (fun _ h9 => h9) rfl (by decide +kernel) rfl rfl (Nat.le_of_ble_eq_true rfl) dX7_supply_7 (fun H locs hP hD hS => ?_)
  have hP : va_P D vwCl (mw cI a (upd mgI 5 1) mdI mFI) H := hP
  have hD : va_D A (mw cI a (upd mgI 5 1) mdI mFI) := hD
  refine lv_aload_n hx hb dX7_supply_10 rfl (lv_at hl 0 rfl) ?_
  refine lv_iconst (v := 0) hx hb dX7_supply_11 (by decide) ?_
  refine va_put (D := D) (ci := 7) (v := .int 0) (ty := .int) (C := RX7) (T := TX7) (N := 41) hx hb hts hi7 tyX7 tyX7_ok nmX7 hown hK hP hD hS 0 rfl rfl 6 (by decide) (hts (.fieldLink RX7 157 "GuardedCallsModel" "answer" "I") (by decide +kernel)) (fun _ h9 => h9) rfl (by decide +kernel) rfl rfl (Nat.le_of_ble_eq_true rfl) dX7_supply_12 (fun H locs hP hD hS => ?_)
  have hP : va_P D vwCl (mw cI a (upd (upd mgI 5 1) 6 0) mdI mFI) H := hP
  have hD : va_D A (mw cI a (upd (upd mgI 5 1) 6 0) mdI mFI) := hD
  refine lv_aload_n hx hb dX7_supply_15 rfl (lv_at hl 0 rfl) ?_
  refine va_get (D := D) (ci := 7) (v := .int 0) (C := RX7) (T := TX7) (N := 41) hx hb hts hi7 hown hK hP 0 rfl rfl 7 (by decide) (hts (.fieldLink RX7 160 "GuardedCallsModel" "outcomes" "I") (by decide +kernel)) (fun _ h9 => h9) rfl dX7_supply_16 ?_
  refine lv_if_ne (tgt := 30) hx hb dX7_supply_19 (by decide) (fun c2 => ?_) (fun c2 => ?_)
  · exact absurd c2 (by decide)
  · refine lv_aload_n hx hb dX7_supply_22 rfl (lv_at hl 0 rfl) ?_
    refine lv_bipush (v := 51) hx hb dX7_supply_23 (by decide) ?_
    refine gc_vv (As := [.int 51]) (rest := []) (w0 := mw cI a (upd (upd mgI 5 1) 6 0) mdI mFI) (wc := mw cI a (upd (upd mgI 5 1) 6 0) mdI mFI) (wr := []) (wf := wfM cI a) ⟨hx, hb, hml, hown, hts⟩ hKK hok hP hD hS hA [0, 1, 2, 3, 4, 5, 6] [] rfl rfl (by decide) (c_X7_note l D cI a _ (upd (upd mgI 5 1) 6 0) mdI mFI 51) (cwV 1 hts gX7_supply_X7_note rfl rfl rfl (by decide +kernel) ⟨Nat.le_of_ble_eq_true rfl, Nat.le_of_ble_eq_true rfl⟩) (va_recv hK hP (ci := 7) (q0 := 0) rfl rfl) rfl hl.1 rfl (Nat.le_of_ble_eq_true rfl) dX7_supply_25 ⟨Nat.le_of_ble_eq_true rfl, Nat.le_of_ble_eq_true rfl⟩ (fun u3 H locs hw3 hP hD hS => ?_)
    obtain ⟨g3, d3, F3⟩ := u3
    have hP : va_P D vwCl (mw cI a g3 d3 F3) H := hP
    have hD : va_D A (mw cI a g3 d3 F3) := hD
    refine lv_iconst (v := 0) hx hb dX7_supply_28 (by decide) ?_
    exact W.iret (v := 0) hx hb hr (fun t ht hW => ⟨⟨_, (g3, d3, F3), rfl, ⟨rfl, hw3.1 6 (by decide), hw3.1 3 (by decide)⟩, by rw [ht]; exact hP, hD⟩, hS.F ht⟩) hS.2.2 dX7_supply_29
set_option maxHeartbeats 4000000 in
set_option maxRecDepth 100000 in
theorem i_X7_call (l : Launch) (D : va_G) (cI : ClassId) (a : Nat → Nat) (sz : Nat) : Met l yX7_call wsX7_call ({ frames := 2, cells := 0, slots := 0, locals := 45 }) (gP (KM D cI) D (mw cI a mgI mdI mFI) sz [.ref (a 0)]) (va_Qi (fun (r : Int32) (u : SS) => r = 0 ∧ u.1 0 = 0) (gB D (wfM cI a) (va_A (mw cI a mgI mdI mFI) sz)) (va_A (mw cI a mgI mdI mFI) sz)) 0 0 (va_A (mw cI a mgI mdI mFI) sz) := by
  refine Met.ofW (cc := cX7_call) (maxL := 5) (ret := (some .int)) (by decide) rfl ?_
  intro p e s m args below meth c s₁ B hml hv
  obtain ⟨rfl, hsz, hP, hD0, hKK⟩ := hv
  have hx := B.exec
  have hb := B.bytes
  have hr := B.returns
  have hts := atoms_spec (ws := wsX7_call) B.pre
  have hown : s.vm.findClass RX7 = some m.cls := findClass_of_methodNamed B.named
  have hlocks := B.notSynchronized
  subst hsz
  have hK := hKK.1
  have hok := KM_ok D cI
  have hD := hD0.self (sz := s.heap.size)
  generalize hAe : va_A (mw cI a mgI mdI mFI) s.heap.size = A at hD ⊢
  have hi7 : ∀ w ∈ wsX70, w ∈ wsX7_call := fun w h => List.mem_cons_of_mem _ (List.mem_append_right _ h)
  have hA : ∀ q : Nat, s.heap.size ≤ q → A q := fun q h => by rw [← hAe]; exact Or.inr h
  have hS : va_S A s.heap s.heap [] := va_S.rf
  have hP : va_P D vwCl (mw cI a mgI mdI mFI) s.heap := hP
  have hl := lv_entry ([.ref ((a 0))]) (n := 5) (Nat.le_of_ble_eq_true rfl)
  rw [lg_entry_eq]
  generalize (lg_sl ([.ref ((a 0))]) ++ List.replicate (5 - (lg_sl ([.ref ((a 0))])).length) Slot.unset).toArray = ls at hl ⊢
  have hl : lv_has ls 5 [(0, .ref ((a 0)))] := hl
  refine lv_aload_n hx hb dX7_call_0 rfl (lv_at hl 0 rfl) ?_
  refine va_get (D := D) (ci := 7) (v := .int 0) (C := RX7) (T := TX7) (N := 41) hx hb hts hi7 hown hK hP 0 rfl rfl 3 (by decide) (hts (.fieldLink RX7 174 "GuardedCallsModel" "height" "I") (by decide +kernel)) (fun _ h9 => h9) rfl dX7_call_1 ?_
  refine lv_iconst (v := 1) hx hb dX7_call_4 (by decide) ?_
  refine lv_isub hx hb dX7_call_5 ?_
  refine lv_topi (fun x1 e1 => ?_)
  obtain rfl : x1 = (-1) := e1.trans (by decide)
  refine lv_istore_n (lv' := [(1, .int ((-1))), (0, .ref ((a 0)))]) hx hb dX7_call_6 rfl hl (by decide) rfl (fun ls hl => ?_)
  refine lv_iconst (v := (-1)) hx hb dX7_call_7 (by decide) ?_
  refine lv_istore_n (lv' := [(2, .int ((-1))), (1, .int ((-1))), (0, .ref ((a 0)))]) hx hb dX7_call_8 rfl hl (by decide) rfl (fun ls hl => ?_)
  refine lv_iload_n hx hb dX7_call_9 rfl (lv_at hl 0 rfl) ?_
  refine lv_if_lt (tgt := 21) hx hb dX7_call_10 (by decide) (fun c2 => ?_) (fun c2 => ?_)
  · refine lv_iload_n hx hb dX7_call_21 rfl (lv_at hl 0 rfl) ?_
    refine lv_if_ge (tgt := 39) hx hb dX7_call_22 (by decide) (fun c3 => ?_) (fun c3 => ?_)
    · exact absurd c3 (by decide)
    · refine lv_iload_n hx hb dX7_call_25 rfl (lv_at hl 1 rfl) ?_
      refine lv_if_ge (tgt := 39) hx hb dX7_call_26 (by decide) (fun c4 => ?_) (fun c4 => ?_)
      · exact absurd c4 (by decide)
      · refine lv_aload_n hx hb dX7_call_29 rfl (lv_at hl 2 rfl) ?_
        refine gc_vi (As := []) (rest := []) (w0 := mw cI a mgI mdI mFI) (wc := mw cI a mgI mdI mFI) (wr := []) (wf := wfM cI a) ⟨hx, hb, hml, hown, hts⟩ hKK hok hP hD hS hA [0, 1, 2, 3, 4, 5, 6] [] rfl rfl (by decide) (i_X7_supply l D cI a _) (cwV 0 hts gX7_call_X7_supply rfl rfl rfl (by decide +kernel) ⟨Nat.le_of_ble_eq_true rfl, Nat.le_of_ble_eq_true rfl⟩) (va_recv hK hP (ci := 7) (q0 := 0) rfl rfl) rfl hl.1 rfl (Nat.le_of_ble_eq_true rfl) dX7_call_30 ⟨Nat.le_of_ble_eq_true rfl, Nat.le_of_ble_eq_true rfl⟩ (fun r5 u5 H locs hw5 hP hD hS => ?_)
        obtain ⟨g5, d5, F5⟩ := u5
        obtain ⟨rfl, hw5⟩ := hw5
        have hP : va_P D vwCl (mw cI a g5 d5 F5) H := hP
        have hD : va_D A (mw cI a g5 d5 F5) := hD
        refine lv_istore_n (lv' := [(2, .int 0), (1, .int ((-1))), (0, .ref ((a 0)))]) hx hb dX7_call_33 rfl hl (by decide) rfl (fun ls hl => ?_)
        refine lv_iconst (v := 0) hx hb dX7_call_34 (by decide) ?_
        refine lv_istore_n (lv' := [(1, .int 0), (2, .int 0), (0, .ref ((a 0)))]) hx hb dX7_call_35 rfl hl (by decide) rfl (fun ls hl => ?_)
        refine lv_goto (tgt := 9) hx hb dX7_call_36 (by decide) ?_
        refine lv_iload_n hx hb dX7_call_9 rfl (lv_at hl 1 rfl) ?_
        refine lv_if_lt (tgt := 21) hx hb dX7_call_10 (by decide) (fun c6 => ?_) (fun c6 => ?_)
        · exact absurd c6 (by decide)
        · refine lv_iload_n hx hb dX7_call_13 rfl (lv_at hl 0 rfl) ?_
          refine lv_aload_n hx hb dX7_call_14 rfl (lv_at hl 2 rfl) ?_
          refine va_get (D := D) (ci := 7) (v := .int ((g5 3))) (C := RX7) (T := TX7) (N := 41) hx hb hts hi7 hown hK hP 0 rfl rfl 3 (by decide) (hts (.fieldLink RX7 174 "GuardedCallsModel" "height" "I") (by decide +kernel)) (fun _ h9 => h9) rfl dX7_call_15 ?_
          refine lv_icmp_ge (tgt := 220) hx hb dX7_call_18 (by decide) (fun c7 => ?_) (fun c7 => ?_)
          · refine lv_aload_n hx hb dX7_call_220 rfl (lv_at hl 2 rfl) ?_
            refine lv_iload_n hx hb dX7_call_221 rfl (lv_at hl 1 rfl) ?_
            refine va_put (D := D) (ci := 7) (v := .int 0) (ty := .int) (C := RX7) (T := TX7) (N := 41) hx hb hts hi7 tyX7 tyX7_ok nmX7 hown hK hP hD hS 0 rfl rfl 0 (by decide) (hts (.fieldLink RX7 96 "GuardedCallsModel" "thrown" "I") (by decide +kernel)) (fun _ h9 => h9) rfl (by decide +kernel) rfl rfl (Nat.le_of_ble_eq_true rfl) dX7_call_222 (fun H locs hP hD hS => ?_)
            have hP : va_P D vwCl (mw cI a (upd g5 0 0) d5 F5) H := hP
            have hD : va_D A (mw cI a (upd g5 0 0) d5 F5) := hD
            refine lv_iload_n hx hb dX7_call_225 rfl (lv_at hl 1 rfl) ?_
            refine lv_if_le (tgt := 233) hx hb dX7_call_226 (by decide) (fun c8 => ?_) (fun c8 => ?_)
            · refine lv_aload_n hx hb dX7_call_233 rfl (lv_at hl 2 rfl) ?_
              refine va_get (D := D) (ci := 7) (v := .int ((g5 6))) (C := RX7) (T := TX7) (N := 41) hx hb hts hi7 hown hK hP 0 rfl rfl 6 (by decide) (hts (.fieldLink RX7 157 "GuardedCallsModel" "answer" "I") (by decide +kernel)) (fun _ h9 => h9) rfl dX7_call_234 ?_
              exact W.iret (v := ((g5 6))) hx hb hr (fun t ht hW => ⟨⟨_, (upd g5 0 0, d5, F5), rfl, ⟨hw5.1, rfl⟩, by rw [ht]; exact hP, hD⟩, hS.F ht⟩) hS.2.2 dX7_call_237
            · exact absurd c8 (by decide)
          · exact absurd (show _ ≤ _ by rw [show (g5 3) = 0 from hw5.2]; decide) c7
  · exact absurd c2 (by decide)
set_option maxHeartbeats 4000000 in
set_option maxRecDepth 100000 in
theorem i_X7_rate (l : Launch) (D : va_G) (cI : ClassId) (a : Nat → Nat) (sz : Nat) (p_k : Int32) : Met l yX7_rate wsX7_rate ({ frames := 0, cells := 0, slots := 0, locals := 0 }) (gP (KM D cI) D (mw cI a mgI mdI mFI) sz [.ref (a 0), .int p_k]) (va_Qd (fun (r : UInt64) (u : SS) => r = 13830554455654793216 ∧ True) (gB D (wfM cI a) (va_A (mw cI a mgI mdI mFI) sz)) (va_A (mw cI a mgI mdI mFI) sz)) 0 0 (va_A (mw cI a mgI mdI mFI) sz) := by
  refine Met.ofW (cc := cX7_rate) (maxL := 2) (ret := (some .double)) (by decide) rfl ?_
  intro p e s m args below meth c s₁ B hml hv
  obtain ⟨rfl, hsz, hP, hD0, hKK⟩ := hv
  have hx := B.exec
  have hb := B.bytes
  have hr := B.returns
  have hts := atoms_spec (ws := wsX7_rate) B.pre
  have hown : s.vm.findClass RX7 = some m.cls := findClass_of_methodNamed B.named
  have hlocks := B.notSynchronized
  subst hsz
  have hK := hKK.1
  have hok := KM_ok D cI
  have hD := hD0.self (sz := s.heap.size)
  generalize hAe : va_A (mw cI a mgI mdI mFI) s.heap.size = A at hD ⊢
  have hi7 : ∀ w ∈ wsX70, w ∈ wsX7_rate := fun w h => List.mem_cons_of_mem _ (List.mem_append_right _ h)
  have hA : ∀ q : Nat, s.heap.size ≤ q → A q := fun q h => by rw [← hAe]; exact Or.inr h
  have hS : va_S A s.heap s.heap [] := va_S.rf
  have hP : va_P D vwCl (mw cI a mgI mdI mFI) s.heap := hP
  have hl := lv_entry ([.ref ((a 0)), .int p_k]) (n := 2) (Nat.le_of_ble_eq_true rfl)
  rw [lg_entry_eq]
  generalize (lg_sl ([.ref ((a 0)), .int p_k]) ++ List.replicate (2 - (lg_sl ([.ref ((a 0)), .int p_k])).length) Slot.unset).toArray = ls at hl ⊢
  have hl : lv_has ls 2 [(0, .ref ((a 0))), (1, .int p_k)] := hl
  refine lv_aload_n hx hb dX7_rate_0 rfl (lv_at hl 0 rfl) ?_
  refine va_get (D := D) (ci := 7) (v := .int 0) (C := RX7) (T := TX7) (N := 41) hx hb hts hi7 hown hK hP 0 rfl rfl 21 (by decide) (hts (.fieldLink RX7 112 "GuardedCallsModel" "count" "I") (by decide +kernel)) (fun _ h9 => h9) rfl dX7_rate_1 ?_
  refine lv_if_ne (tgt := 13) hx hb dX7_rate_4 (by decide) (fun c1 => ?_) (fun c1 => ?_)
  · exact absurd c1 (by decide)
  · refine lv_ldc2d (v := 13830554455654793216) hx hb hown (hts (.constantDouble RX7 118 (13830554455654793216)) (by decide +kernel)) dX7_rate_7 ?_
    refine lv_goto (tgt := 29) hx hb dX7_rate_10 (by decide) ?_
    exact W.dret (v := 13830554455654793216) hx hb hr (fun t ht hW => ⟨⟨_, (mgI, mdI, mFI), rfl, ⟨rfl, trivial⟩, by rw [ht]; exact hP, hD⟩, hS.F ht⟩) hS.2.2 dX7_rate_29
