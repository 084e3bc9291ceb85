set_option maxHeartbeats 4000000 in
set_option maxRecDepth 100000 in
theorem s_X6_lies (l : Launch) (D : va_G) (cI : ClassId) (a : Nat → Nat) (sz : Nat) (g : Nat → Int32) (d : Nat → UInt64) (F : Nat → Nat → Int32) (p_k : Int32) : Met l yX6_lies wsX6_lies ({ frames := 0, cells := 0, slots := 0, locals := 0 }) (gP (KC D cI) D (cw cI a g d F) sz [.ref (a 0), .int p_k]) (va_Qi (fun (r : Int32) (u : SS) => (r = 0 ∨ r = 1) ∧ u = (g, d, F)) (gB D (wfC cI a) (va_A (cw cI a g d F) sz)) (va_A (cw cI a g d F) sz)) 0 0 (va_A (cw cI a g d F) sz) := by
  refine Met.ofW (cc := cX6_lies) (maxL := 3) (ret := (some .boolean)) (by decide) rfl ?_
  intro p e s m args below meth c s₁ B hml hv
  obtain ⟨rfl, hsz, hP, hD0, hKK⟩ := hv
  have hx := B.exec
  have hb := B.bytes
  have hr := B.returns
  have hts := atoms_spec (ws := wsX6_lies) B.pre
  have hown : s.vm.findClass RX6 = some m.cls := findClass_of_methodNamed B.named
  have hlocks := B.notSynchronized
  subst hsz
  have hK := hKK.1
  have hok := KC_ok D cI
  have hD := hD0.self (sz := s.heap.size)
  generalize hAe : va_A (cw cI a g d F) s.heap.size = A at hD ⊢
  have hi6 : ∀ w ∈ wsX60, w ∈ wsX6_lies := fun w h => List.mem_cons_of_mem _ (List.mem_append_right _ h)
  have hA : ∀ q : Nat, s.heap.size ≤ q → A q := fun q h => by rw [← hAe]; exact Or.inr h
  have hS : va_S A s.heap s.heap [] := va_S.rf
  have hP : va_P D vwCl (cw cI a g d F) s.heap := hP
  have hl := lv_entry ([.ref ((a 0)), .int p_k]) (n := 3) (Nat.le_of_ble_eq_true rfl)
  rw [lg_entry_eq]
  generalize (lg_sl ([.ref ((a 0)), .int p_k]) ++ List.replicate (3 - (lg_sl ([.ref ((a 0)), .int p_k])).length) Slot.unset).toArray = ls at hl ⊢
  have hl : lv_has ls 3 [(0, .ref ((a 0))), (1, .int p_k)] := hl
  refine lv_iconst (v := 0) hx hb dX6_lies_0 (by decide) ?_
  refine lv_istore_n (lv' := [(2, .int 0), (0, .ref ((a 0))), (1, .int p_k)]) hx hb dX6_lies_1 rfl hl (by decide) rfl (fun ls hl => ?_)
  refine gl_loop (σ := Int32) (μ := fun q => match q with | y1_2 => (5 - (y1_2).toInt).toNat) (Inv := fun q H locs ls => match q with | y1_2 => 0 ≤ (y1_2).toInt ∧ va_P D vwCl (cw cI a g d F) H ∧ va_D A (cw cI a g d F) ∧ va_S A s.heap H locs ∧ lv_has ls 3 [(2, .int y1_2), (0, .ref ((a 0))), (1, .int p_k)]) (fun q H locs ls hv ih1 => ?_) 0 _ _ _ ⟨by decide, hP, hD, hS, lv_sub hl [0, 1, 2] rfl⟩
  obtain ⟨y1_2, rfl⟩ : ∃ y, y = q := ⟨_, rfl⟩
  obtain ⟨hq1_0, hP, hD, hS, hl⟩ := hv
  refine lv_iload_n hx hb dX6_lies_2 rfl (lv_at hl 0 rfl) ?_
  refine lv_aload_n hx hb dX6_lies_3 rfl (lv_at hl 1 rfl) ?_
  refine va_get (D := D) (ci := 6) (v := .int ((g 0))) (C := RX6) (T := TX6) (N := 11) hx hb hts hi6 hown hK hP 0 rfl rfl 7 (by decide) (hts (.fieldLink RX6 59 "GuardedCalls" "laid" "I") (by decide +kernel)) (fun _ h9 => h9) rfl dX6_lies_4 ?_
  refine lv_icmp_ge (tgt := 33) hx hb dX6_lies_7 (by decide) (fun c2 => ?_) (fun c2 => ?_)
  · refine lv_iconst (v := 0) hx hb dX6_lies_33 (by decide) ?_
    exact W.zret (v := 0) hx hb hr (rfl) (fun t ht hW => ⟨⟨_, (g, d, F), rfl, ⟨Or.inl rfl, rfl⟩, by rw [ht]; exact hP, hD⟩, hS.F ht⟩) hS.2.2 dX6_lies_34
  · refine lv_iload_n hx hb dX6_lies_10 rfl (lv_at hl 0 rfl) ?_
    refine lv_iconst (v := 5) hx hb dX6_lies_11 (by decide) ?_
    refine lv_icmp_ge (tgt := 33) hx hb dX6_lies_12 (by decide) (fun c3 => ?_) (fun c3 => ?_)
    · refine lv_iconst (v := 0) hx hb dX6_lies_33 (by decide) ?_
      exact W.zret (v := 0) hx hb hr (rfl) (fun t ht hW => ⟨⟨_, (g, d, F), rfl, ⟨Or.inl rfl, rfl⟩, by rw [ht]; exact hP, hD⟩, hS.F ht⟩) hS.2.2 dX6_lies_34
    · refine lv_aload_n hx hb dX6_lies_15 rfl (lv_at hl 1 rfl) ?_
      refine va_get (D := D) (ci := 6) (v := .ref ((a 7))) (C := RX6) (T := TX6) (N := 11) hx hb hts hi6 hown hK hP 0 rfl rfl 6 (by decide) (hts (.fieldLink RX6 55 "GuardedCalls" "stack" "[I") (by decide +kernel)) (fun _ h9 => h9) rfl dX6_lies_16 ?_
      refine lv_iload_n hx hb dX6_lies_19 rfl (lv_at hl 0 rfl) ?_
      refine va_iald (D := D) hx hb hK hP 7 0 (f := (F 0)) (n := 5) rfl rfl (vp_in_iff.mpr ⟨hq1_0, by have h2 := i_lt c3; rw [show (5 : Int32).toInt = 5 from rfl] at h2; omega⟩) dX6_lies_20 ?_
      refine lv_topi (fun x4 e4 => ?_)
      refine lv_iload_n hx hb dX6_lies_21 rfl (lv_at hl 2 rfl) ?_
      refine lv_icmp_ne (tgt := 27) hx hb dX6_lies_22 (by decide) (fun c5 => ?_) (fun c5 => ?_)
      · obtain ⟨x6, e6⟩ : ∃ y : Int32, y = y1_2 + 1 := ⟨_, rfl⟩
        refine lv_iinc (v := x6) (lv' := [(2, .int x6), (0, .ref ((a 0))), (1, .int p_k)]) hx hb dX6_lies_27 hl (k := 0) rfl (by rw [e6]; rfl) (by decide) rfl (fun ls hl => ?_)
        refine lv_goto (tgt := 2) hx hb dX6_lies_30 (by decide) ?_
        exact ih1 x6 _ _ _ (by have h1 := i_inc c3; have h2 := i_lt c3; rw [show (5 : Int32).toInt = 5 from rfl] at h2; show (5 - (x6).toInt).toNat < (5 - (y1_2).toInt).toNat; rw [e6, h1]; omega) ⟨by rw [e6, i_inc c3]; omega, hP, hD, hS, lv_sub hl [0, 1, 2] rfl⟩
      · refine lv_iconst (v := 1) hx hb dX6_lies_25 (by decide) ?_
        exact W.zret (v := 1) hx hb hr (rfl) (fun t ht hW => ⟨⟨_, (g, d, F), rfl, ⟨Or.inr rfl, rfl⟩, by rw [ht]; exact hP, hD⟩, hS.F ht⟩) hS.2.2 dX6_lies_26
set_option maxHeartbeats 4000000 in
set_option maxRecDepth 100000 in
theorem s_X6_breaker (l : Launch) (D : va_G) (cI : ClassId) (a : Nat → Nat) (sz : Nat) (g : Nat → Int32) (d : Nat → UInt64) (F : Nat → Nat → Int32) (p_s : Int32) (p_l : Int32) (p_w : Int32) (p_t : Int32) (hI : CI g d) : Met l yX6_breaker wsX6_breaker ({ frames := 1, cells := 0, slots := 0, locals := 22 }) (gP (KC D cI) D (cw cI a g d F) sz [.ref (a 0), .int p_s, .int p_l, .int p_w, .int p_t]) (va_Qi (fun (r : Int32) (u : SS) => (r = sp_breaker p_s p_l p_w p_t) ∧ CP g F u) (gB D (wfC cI a) (va_A (cw cI a g d F) sz)) (va_A (cw cI a g d F) sz)) 0 0 (va_A (cw cI a g d F) sz) := by
  refine Met.ofW (cc := cX6_breaker) (maxL := 5) (ret := (some .boolean)) (by decide) rfl ?_
  intro p e s m args below meth c s₁ B hml hv
  obtain ⟨rfl, hsz, hP, hD0, hKK⟩ := hv
  have hx := B.exec
  have hb := B.bytes
  have hr := B.returns
  have hts := atoms_spec (ws := wsX6_breaker) B.pre
  have hown : s.vm.findClass RX6 = some m.cls := findClass_of_methodNamed B.named
  have hlocks := B.notSynchronized
  subst hsz
  have hK := hKK.1
  have hok := KC_ok D cI
  have hD := hD0.self (sz := s.heap.size)
  generalize hAe : va_A (cw cI a g d F) s.heap.size = A at hD ⊢
  have hi6 : ∀ w ∈ wsX60, w ∈ wsX6_breaker := fun w h => List.mem_cons_of_mem _ (List.mem_append_left _ (List.mem_append_right _ h))
  have hi0 : ∀ w ∈ wsX00, w ∈ wsX6_breaker := fun w h => List.mem_cons_of_mem _ (List.mem_append_right _ h)
  have hA : ∀ q : Nat, s.heap.size ≤ q → A q := fun q h => by rw [← hAe]; exact Or.inr h
  have hS : va_S A s.heap s.heap [] := va_S.rf
  have hP : va_P D vwCl (cw cI a g d F) s.heap := hP
  have hl := lv_entry ([.ref ((a 0)), .int p_s, .int p_l, .int p_w, .int p_t]) (n := 5) (Nat.le_of_ble_eq_true rfl)
  rw [lg_entry_eq]
  generalize (lg_sl ([.ref ((a 0)), .int p_s, .int p_l, .int p_w, .int p_t]) ++ List.replicate (5 - (lg_sl ([.ref ((a 0)), .int p_s, .int p_l, .int p_w, .int p_t])).length) Slot.unset).toArray = ls at hl ⊢
  have hl : lv_has ls 5 [(0, .ref ((a 0))), (1, .int p_s), (2, .int p_l), (3, .int p_w), (4, .int p_t)] := hl
  refine lv_iload_n hx hb dX6_breaker_0 rfl (lv_at hl 1 rfl) ?_
  refine lv_iconst (v := 1) hx hb dX6_breaker_1 (by decide) ?_
  refine lv_bipush (v := 8) hx hb dX6_breaker_2 (by decide) ?_
  refine gc_si (As := [.int p_s, .int 1, .int 8]) (rest := []) ⟨hx, hb, hml, hown, hts⟩ hP hD hS hA (c_X6_isWithin l _ p_s 1 8) (va_cwS 3 hts gX6_breaker_X6_isWithin rfl rfl rfl (by decide +kernel) ⟨Nat.le_of_ble_eq_true rfl, Nat.le_of_ble_eq_true rfl⟩) rfl hl.1 rfl (Nat.le_of_ble_eq_true rfl) dX6_breaker_4 ⟨Nat.le_of_ble_eq_true rfl, Nat.le_of_ble_eq_true rfl⟩ (fun r1 H locs hw1 hP hS => ?_)
  subst hw1
  refine lv_if_eq (tgt := 39) hx hb dX6_breaker_7 (by decide) (fun c2 => ?_) (fun c2 => ?_)
  · refine lv_iconst (v := 0) hx hb dX6_breaker_39 (by decide) ?_
    exact W.zret (v := 0) hx hb hr (rfl) (fun t ht hW => ⟨⟨_, (g, d, F), rfl, ⟨by simp [sp_breaker, c2], hI, rfl, rfl, rfl⟩, by rw [ht]; exact hP, hD⟩, hS.F ht⟩) hS.2.2 dX6_breaker_40
  · refine lv_iload_n hx hb dX6_breaker_10 rfl (lv_at hl 2 rfl) ?_
    refine lv_iconst (v := 1) hx hb dX6_breaker_11 (by decide) ?_
    refine lv_iload_n hx hb dX6_breaker_12 rfl (lv_at hl 1 rfl) ?_
    refine gc_si (As := [.int p_l, .int 1, .int p_s]) (rest := []) ⟨hx, hb, hml, hown, hts⟩ hP hD hS hA (c_X6_isWithin l _ p_l 1 p_s) (va_cwS 3 hts gX6_breaker_X6_isWithin rfl rfl rfl (by decide +kernel) ⟨Nat.le_of_ble_eq_true rfl, Nat.le_of_ble_eq_true rfl⟩) rfl hl.1 rfl (Nat.le_of_ble_eq_true rfl) dX6_breaker_13 ⟨Nat.le_of_ble_eq_true rfl, Nat.le_of_ble_eq_true rfl⟩ (fun r3 H locs hw3 hP hS => ?_)
    subst hw3
    refine lv_if_eq (tgt := 39) hx hb dX6_breaker_16 (by decide) (fun c4 => ?_) (fun c4 => ?_)
    · refine lv_iconst (v := 0) hx hb dX6_breaker_39 (by decide) ?_
      exact W.zret (v := 0) hx hb hr (rfl) (fun t ht hW => ⟨⟨_, (g, d, F), rfl, ⟨by simp [sp_breaker, c2, c4], hI, rfl, rfl, rfl⟩, by rw [ht]; exact hP, hD⟩, hS.F ht⟩) hS.2.2 dX6_breaker_40
    · refine lv_iload_n hx hb dX6_breaker_19 rfl (lv_at hl 3 rfl) ?_
      refine lv_iconst (v := 0) hx hb dX6_breaker_20 (by decide) ?_
      refine lv_bipush (v := 100) hx hb dX6_breaker_21 (by decide) ?_
      refine gc_si (As := [.int p_w, .int 0, .int 100]) (rest := []) ⟨hx, hb, hml, hown, hts⟩ hP hD hS hA (c_X6_isWithin l _ p_w 0 100) (va_cwS 3 hts gX6_breaker_X6_isWithin rfl rfl rfl (by decide +kernel) ⟨Nat.le_of_ble_eq_true rfl, Nat.le_of_ble_eq_true rfl⟩) rfl hl.1 rfl (Nat.le_of_ble_eq_true rfl) dX6_breaker_23 ⟨Nat.le_of_ble_eq_true rfl, Nat.le_of_ble_eq_true rfl⟩ (fun r5 H locs hw5 hP hS => ?_)
      subst hw5
      refine lv_if_eq (tgt := 39) hx hb dX6_breaker_26 (by decide) (fun c6 => ?_) (fun c6 => ?_)
      · refine lv_iconst (v := 0) hx hb dX6_breaker_39 (by decide) ?_
        exact W.zret (v := 0) hx hb hr (rfl) (fun t ht hW => ⟨⟨_, (g, d, F), rfl, ⟨by simp [sp_breaker, c2, c4, c6], hI, rfl, rfl, rfl⟩, by rw [ht]; exact hP, hD⟩, hS.F ht⟩) hS.2.2 dX6_breaker_40
      · refine lv_iload hx hb dX6_breaker_29 (lv_at hl 4 rfl) ?_
        refine lv_iconst (v := 1) hx hb dX6_breaker_31 (by decide) ?_
        refine lv_iconst (v := 4) hx hb dX6_breaker_32 (by decide) ?_
        refine gc_si (As := [.int p_t, .int 1, .int 4]) (rest := []) ⟨hx, hb, hml, hown, hts⟩ hP hD hS hA (c_X6_isWithin l _ p_t 1 4) (va_cwS 3 hts gX6_breaker_X6_isWithin rfl rfl rfl (by decide +kernel) ⟨Nat.le_of_ble_eq_true rfl, Nat.le_of_ble_eq_true rfl⟩) rfl hl.1 rfl (Nat.le_of_ble_eq_true rfl) dX6_breaker_33 ⟨Nat.le_of_ble_eq_true rfl, Nat.le_of_ble_eq_true rfl⟩ (fun r7 H locs hw7 hP hS => ?_)
        subst hw7
        refine lv_if_ne (tgt := 41) hx hb dX6_breaker_36 (by decide) (fun c8 => ?_) (fun c8 => ?_)
        · refine lv_aload_n hx hb dX6_breaker_41 rfl (lv_at hl 0 rfl) ?_
          refine va_get (D := D) (ci := 6) (v := .ref ((a 4))) (C := RX6) (T := TX6) (N := 11) hx hb hts hi6 hown hK hP 0 rfl rfl 3 (by decide) (hts (.fieldLink RX6 37 "GuardedCalls" "breaker" "LGuardedCalls$Breaker;") (by decide +kernel)) (fun _ h9 => h9) rfl dX6_breaker_42 ?_
          refine lv_iload_n hx hb dX6_breaker_45 rfl (lv_at hl 1 rfl) ?_
          refine va_putN (D := D) (ci := 0) (v := .int p_s) (ty := .int) (C := RX0) (T := TX0) (N := 15) hx hb hts hi0 tyX0 tyX0_ok nmX0 hown hK hP hD hS 4 rfl rfl 2 (by decide) (nw_use hKK.2 (w := .fieldLinkNest "GuardedCalls" 76 "GuardedCalls$Breaker" "size" "I" "GuardedCalls") (by decide +kernel)) (fun _ h9 => h9) rfl (by decide +kernel) rfl rfl (Nat.le_of_ble_eq_true rfl) dX6_breaker_46 (fun H locs hP hD hS => ?_)
          have hP : va_P D vwCl (cw cI a (upd g 11 p_s) d F) H := hP
          have hD : va_D A (cw cI a (upd g 11 p_s) d F) := hD
          refine lv_aload_n hx hb dX6_breaker_49 rfl (lv_at hl 0 rfl) ?_
          refine va_get (D := D) (ci := 6) (v := .ref ((a 4))) (C := RX6) (T := TX6) (N := 11) hx hb hts hi6 hown hK hP 0 rfl rfl 3 (by decide) (hts (.fieldLink RX6 37 "GuardedCalls" "breaker" "LGuardedCalls$Breaker;") (by decide +kernel)) (fun _ h9 => h9) rfl dX6_breaker_50 ?_
          refine lv_iload_n hx hb dX6_breaker_53 rfl (lv_at hl 2 rfl) ?_
          refine va_putN (D := D) (ci := 0) (v := .int p_l) (ty := .int) (C := RX0) (T := TX0) (N := 15) hx hb hts hi0 tyX0 tyX0_ok nmX0 hown hK hP hD hS 4 rfl rfl 3 (by decide) (nw_use hKK.2 (w := .fieldLinkNest "GuardedCalls" 79 "GuardedCalls$Breaker" "least" "I" "GuardedCalls") (by decide +kernel)) (fun _ h9 => h9) rfl (by decide +kernel) rfl rfl (Nat.le_of_ble_eq_true rfl) dX6_breaker_54 (fun H locs hP hD hS => ?_)
          have hP : va_P D vwCl (cw cI a (upd (upd g 11 p_s) 12 p_l) d F) H := hP
          have hD : va_D A (cw cI a (upd (upd g 11 p_s) 12 p_l) d F) := hD
          refine lv_aload_n hx hb dX6_breaker_57 rfl (lv_at hl 0 rfl) ?_
          refine va_get (D := D) (ci := 6) (v := .ref ((a 4))) (C := RX6) (T := TX6) (N := 11) hx hb hts hi6 hown hK hP 0 rfl rfl 3 (by decide) (hts (.fieldLink RX6 37 "GuardedCalls" "breaker" "LGuardedCalls$Breaker;") (by decide +kernel)) (fun _ h9 => h9) rfl dX6_breaker_58 ?_
          refine lv_iload_n hx hb dX6_breaker_61 rfl (lv_at hl 3 rfl) ?_
          refine va_putN (D := D) (ci := 0) (v := .int p_w) (ty := .int) (C := RX0) (T := TX0) (N := 15) hx hb hts hi0 tyX0 tyX0_ok nmX0 hown hK hP hD hS 4 rfl rfl 4 (by decide) (nw_use hKK.2 (w := .fieldLinkNest "GuardedCalls" 82 "GuardedCalls$Breaker" "rest" "I" "GuardedCalls") (by decide +kernel)) (fun _ h9 => h9) rfl (by decide +kernel) rfl rfl (Nat.le_of_ble_eq_true rfl) dX6_breaker_62 (fun H locs hP hD hS => ?_)
          have hP : va_P D vwCl (cw cI a (upd (upd (upd g 11 p_s) 12 p_l) 13 p_w) d F) H := hP
          have hD : va_D A (cw cI a (upd (upd (upd g 11 p_s) 12 p_l) 13 p_w) d F) := hD
          refine lv_aload_n hx hb dX6_breaker_65 rfl (lv_at hl 0 rfl) ?_
          refine va_get (D := D) (ci := 6) (v := .ref ((a 4))) (C := RX6) (T := TX6) (N := 11) hx hb hts hi6 hown hK hP 0 rfl rfl 3 (by decide) (hts (.fieldLink RX6 37 "GuardedCalls" "breaker" "LGuardedCalls$Breaker;") (by decide +kernel)) (fun _ h9 => h9) rfl dX6_breaker_66 ?_
          refine lv_iload hx hb dX6_breaker_69 (lv_at hl 4 rfl) ?_
          refine va_putN (D := D) (ci := 0) (v := .int p_t) (ty := .int) (C := RX0) (T := TX0) (N := 15) hx hb hts hi0 tyX0 tyX0_ok nmX0 hown hK hP hD hS 4 rfl rfl 5 (by decide) (nw_use hKK.2 (w := .fieldLinkNest "GuardedCalls" 85 "GuardedCalls$Breaker" "trials" "I" "GuardedCalls") (by decide +kernel)) (fun _ h9 => h9) rfl (by decide +kernel) rfl rfl (Nat.le_of_ble_eq_true rfl) dX6_breaker_71 (fun H locs hP hD hS => ?_)
          have hP : va_P D vwCl (cw cI a (upd (upd (upd (upd g 11 p_s) 12 p_l) 13 p_w) 14 p_t) d F) H := hP
          have hD : va_D A (cw cI a (upd (upd (upd (upd g 11 p_s) 12 p_l) 13 p_w) 14 p_t) d F) := hD
          refine lv_aload_n hx hb dX6_breaker_74 rfl (lv_at hl 0 rfl) ?_
          refine va_get (D := D) (ci := 6) (v := .ref ((a 4))) (C := RX6) (T := TX6) (N := 11) hx hb hts hi6 hown hK hP 0 rfl rfl 3 (by decide) (hts (.fieldLink RX6 37 "GuardedCalls" "breaker" "LGuardedCalls$Breaker;") (by decide +kernel)) (fun _ h9 => h9) rfl dX6_breaker_75 ?_
          refine lv_iconst (v := 0) hx hb dX6_breaker_78 (by decide) ?_
          refine va_putN (D := D) (ci := 0) (v := .int 0) (ty := .int) (C := RX0) (T := TX0) (N := 15) hx hb hts hi0 tyX0 tyX0_ok nmX0 hown hK hP hD hS 4 rfl rfl 9 (by decide) (nw_use hKK.2 (w := .fieldLinkNest "GuardedCalls" 88 "GuardedCalls$Breaker" "state" "I" "GuardedCalls") (by decide +kernel)) (fun _ h9 => h9) rfl (by decide +kernel) rfl rfl (Nat.le_of_ble_eq_true rfl) dX6_breaker_79 (fun H locs hP hD hS => ?_)
          have hP : va_P D vwCl (cw cI a (upd (upd (upd (upd (upd g 11 p_s) 12 p_l) 13 p_w) 14 p_t) 16 0) d F) H := hP
          have hD : va_D A (cw cI a (upd (upd (upd (upd (upd g 11 p_s) 12 p_l) 13 p_w) 14 p_t) 16 0) d F) := hD
          refine lv_aload_n hx hb dX6_breaker_82 rfl (lv_at hl 0 rfl) ?_
          refine va_get (D := D) (ci := 6) (v := .ref ((a 4))) (C := RX6) (T := TX6) (N := 11) hx hb hts hi6 hown hK hP 0 rfl rfl 3 (by decide) (hts (.fieldLink RX6 37 "GuardedCalls" "breaker" "LGuardedCalls$Breaker;") (by decide +kernel)) (fun _ h9 => h9) rfl dX6_breaker_83 ?_
          refine gc_vv (As := []) (rest := []) (w0 := cw cI a (upd (upd (upd (upd (upd g 11 p_s) 12 p_l) 13 p_w) 14 p_t) 16 0) d F) (wc := cw cI a (upd (upd (upd (upd (upd g 11 p_s) 12 p_l) 13 p_w) 14 p_t) 16 0) d F) (wr := []) (wf := wfC cI a) ⟨hx, hb, hml, hown, hts⟩ hKK hok hP hD hS hA [0, 1, 2, 3, 4, 5, 6, 7, 8, 9, 10, 11] [] rfl rfl (by decide) (s_X0_emptyWindow l D cI a _ (upd (upd (upd (upd (upd g 11 p_s) 12 p_l) 13 p_w) 14 p_t) 16 0) d F) (cwV 0 hts gX6_breaker_X0_emptyWindow rfl rfl rfl (by decide +kernel) ⟨Nat.le_of_ble_eq_true rfl, Nat.le_of_ble_eq_true rfl⟩) (va_recv hK hP (ci := 0) (q0 := 4) rfl rfl) rfl hl.1 rfl (Nat.le_of_ble_eq_true rfl) dX6_breaker_86 ⟨Nat.le_of_ble_eq_true rfl, Nat.le_of_ble_eq_true rfl⟩ (fun u9 H locs hw9 hP hD hS => ?_)
          subst hw9
          have hP : va_P D vwCl (cw cI a (upd (upd (upd (upd (upd (upd (upd (upd g 11 p_s) 12 p_l) 13 p_w) 14 p_t) 16 0) 19 0) 20 0) 21 0) d F) H := hP
          have hD : va_D A (cw cI a (upd (upd (upd (upd (upd (upd (upd (upd g 11 p_s) 12 p_l) 13 p_w) 14 p_t) 16 0) 19 0) 20 0) 21 0) d F) := hD
          refine lv_iconst (v := 1) hx hb dX6_breaker_89 (by decide) ?_
          exact W.zret (v := 1) hx hb hr (rfl) (fun t ht hW => ⟨⟨_, (upd (upd (upd (upd (upd (upd (upd (upd g 11 p_s) 12 p_l) 13 p_w) 14 p_t) 16 0) 19 0) 20 0) 21 0, d, F), rfl, ⟨by simp [sp_breaker, c2, c4, c6, c8], hI, rfl, rfl, rfl⟩, by rw [ht]; exact hP, hD⟩, hS.F ht⟩) hS.2.2 dX6_breaker_90
        · refine lv_iconst (v := 0) hx hb dX6_breaker_39 (by decide) ?_
          exact W.zret (v := 0) hx hb hr (rfl) (fun t ht hW => ⟨⟨_, (g, d, F), rfl, ⟨by simp [sp_breaker, c2, c4, c6, c8], hI, rfl, rfl, rfl⟩, by rw [ht]; exact hP, hD⟩, hS.F ht⟩) hS.2.2 dX6_breaker_40
set_option maxHeartbeats 4000000 in
set_option maxRecDepth 100000 in
theorem s_X6_trips (l : Launch) (D : va_G) (cI : ClassId) (a : Nat → Nat) (sz : Nat) (g : Nat → Int32) (d : Nat → UInt64) (F : Nat → Nat → Int32) (p_f : UInt64) (p_s : UInt64) (p_k : Int32) (hI : CI g d) : Met l yX6_trips wsX6_trips ({ frames := 1, cells := 0, slots := 0, locals := 22 }) (gP (KC D cI) D (cw cI a g d F) sz [.ref (a 0), .double p_f, .double p_s, .int p_k]) (va_Qi (fun (r : Int32) (u : SS) => (r = sp_trips p_f p_s p_k) ∧ CP g F u) (gB D (wfC cI a) (va_A (cw cI a g d F) sz)) (va_A (cw cI a g d F) sz)) 0 0 (va_A (cw cI a g d F) sz) := by
  refine Met.ofW (cc := cX6_trips) (maxL := 6) (ret := (some .boolean)) (by decide) rfl ?_
  intro p e s m args below meth c s₁ B hml hv
  obtain ⟨rfl, hsz, hP, hD0, hKK⟩ := hv
  have hx := B.exec
  have hb := B.bytes
  have hr := B.returns
  have hts := atoms_spec (ws := wsX6_trips) B.pre
  have hown : s.vm.findClass RX6 = some m.cls := findClass_of_methodNamed B.named
  have hlocks := B.notSynchronized
  subst hsz
  have hK := hKK.1
  have hok := KC_ok D cI
  have hD := hD0.self (sz := s.heap.size)
  generalize hAe : va_A (cw cI a g d F) s.heap.size = A at hD ⊢
  have hi6 : ∀ w ∈ wsX60, w ∈ wsX6_trips := fun w h => List.mem_cons_of_mem _ (List.mem_append_left _ (List.mem_append_right _ h))
  have hi0 : ∀ w ∈ wsX00, w ∈ wsX6_trips := fun w h => List.mem_cons_of_mem _ (List.mem_append_right _ h)
  have hA : ∀ q : Nat, s.heap.size ≤ q → A q := fun q h => by rw [← hAe]; exact Or.inr h
  have hS : va_S A s.heap s.heap [] := va_S.rf
  have hP : va_P D vwCl (cw cI a g d F) s.heap := hP
  have hl := lv_entry ([.ref ((a 0)), .double p_f, .double p_s, .int p_k]) (n := 6) (Nat.le_of_ble_eq_true rfl)
  rw [lg_entry_eq]
  generalize (lg_sl ([.ref ((a 0)), .double p_f, .double p_s, .int p_k]) ++ List.replicate (6 - (lg_sl ([.ref ((a 0)), .double p_f, .double p_s, .int p_k])).length) Slot.unset).toArray = ls at hl ⊢
  have hl : lv_has ls 6 [(0, .ref ((a 0))), (1, .double p_f), (3, .double p_s), (5, .int p_k)] := hl
  refine lv_dload_n hx hb dX6_trips_0 rfl (lv_at hl 1 rfl) ?_
  refine gc_si (As := [.double p_f]) (rest := []) ⟨hx, hb, hml, hown, hts⟩ hP hD hS hA (c_X6_isRate l _ p_f) (va_cwS 1 hts gX6_trips_X6_isRate rfl rfl rfl (by decide +kernel) ⟨Nat.le_of_ble_eq_true rfl, Nat.le_of_ble_eq_true rfl⟩) rfl hl.1 rfl (Nat.le_of_ble_eq_true rfl) dX6_trips_1 ⟨Nat.le_of_ble_eq_true rfl, Nat.le_of_ble_eq_true rfl⟩ (fun r1 H locs hw1 hP hS => ?_)
  subst hw1
  refine lv_if_eq (tgt := 25) hx hb dX6_trips_4 (by decide) (fun c2 => ?_) (fun c2 => ?_)
  · refine lv_iconst (v := 0) hx hb dX6_trips_25 (by decide) ?_
    exact W.zret (v := 0) hx hb hr (rfl) (fun t ht hW => ⟨⟨_, (g, d, F), rfl, ⟨by simp [sp_trips, c2], hI, rfl, rfl, rfl⟩, by rw [ht]; exact hP, hD⟩, hS.F ht⟩) hS.2.2 dX6_trips_26
  · refine lv_dload_n hx hb dX6_trips_7 rfl (lv_at hl 2 rfl) ?_
    refine gc_si (As := [.double p_s]) (rest := []) ⟨hx, hb, hml, hown, hts⟩ hP hD hS hA (c_X6_isRate l _ p_s) (va_cwS 1 hts gX6_trips_X6_isRate rfl rfl rfl (by decide +kernel) ⟨Nat.le_of_ble_eq_true rfl, Nat.le_of_ble_eq_true rfl⟩) rfl hl.1 rfl (Nat.le_of_ble_eq_true rfl) dX6_trips_8 ⟨Nat.le_of_ble_eq_true rfl, Nat.le_of_ble_eq_true rfl⟩ (fun r3 H locs hw3 hP hS => ?_)
    subst hw3
    refine lv_if_eq (tgt := 25) hx hb dX6_trips_11 (by decide) (fun c4 => ?_) (fun c4 => ?_)
    · refine lv_iconst (v := 0) hx hb dX6_trips_25 (by decide) ?_
      exact W.zret (v := 0) hx hb hr (rfl) (fun t ht hW => ⟨⟨_, (g, d, F), rfl, ⟨by simp [sp_trips, c2, c4], hI, rfl, rfl, rfl⟩, by rw [ht]; exact hP, hD⟩, hS.F ht⟩) hS.2.2 dX6_trips_26
    · refine lv_iload hx hb dX6_trips_14 (lv_at hl 3 rfl) ?_
      refine lv_iconst (v := 0) hx hb dX6_trips_16 (by decide) ?_
      refine lv_bipush (v := 100) hx hb dX6_trips_17 (by decide) ?_
      refine gc_si (As := [.int p_k, .int 0, .int 100]) (rest := []) ⟨hx, hb, hml, hown, hts⟩ hP hD hS hA (c_X6_isWithin l _ p_k 0 100) (va_cwS 3 hts gX6_trips_X6_isWithin rfl rfl rfl (by decide +kernel) ⟨Nat.le_of_ble_eq_true rfl, Nat.le_of_ble_eq_true rfl⟩) rfl hl.1 rfl (Nat.le_of_ble_eq_true rfl) dX6_trips_19 ⟨Nat.le_of_ble_eq_true rfl, Nat.le_of_ble_eq_true rfl⟩ (fun r5 H locs hw5 hP hS => ?_)
      subst hw5
      refine lv_if_ne (tgt := 27) hx hb dX6_trips_22 (by decide) (fun c6 => ?_) (fun c6 => ?_)
      · refine lv_aload_n hx hb dX6_trips_27 rfl (lv_at hl 0 rfl) ?_
        refine va_get (D := D) (ci := 6) (v := .ref ((a 4))) (C := RX6) (T := TX6) (N := 11) hx hb hts hi6 hown hK hP 0 rfl rfl 3 (by decide) (hts (.fieldLink RX6 37 "GuardedCalls" "breaker" "LGuardedCalls$Breaker;") (by decide +kernel)) (fun _ h9 => h9) rfl dX6_trips_28 ?_
        refine lv_dload_n hx hb dX6_trips_31 rfl (lv_at hl 1 rfl) ?_
        refine va_putN (D := D) (ci := 0) (v := .double p_f) (ty := .double) (C := RX0) (T := TX0) (N := 15) hx hb hts hi0 tyX0 tyX0_ok nmX0 hown hK hP hD hS 4 rfl rfl 6 (by decide) (nw_use hKK.2 (w := .fieldLinkNest "GuardedCalls" 98 "GuardedCalls$Breaker" "failures" "D" "GuardedCalls") (by decide +kernel)) (fun _ h9 => h9) rfl (by decide +kernel) rfl rfl (Nat.le_of_ble_eq_true rfl) dX6_trips_32 (fun H locs hP hD hS => ?_)
        have hP : va_P D vwCl (cw cI a g (vf_upd d 0 p_f) F) H := hP
        have hD : va_D A (cw cI a g (vf_upd d 0 p_f) F) := hD
        refine lv_aload_n hx hb dX6_trips_35 rfl (lv_at hl 0 rfl) ?_
        refine va_get (D := D) (ci := 6) (v := .ref ((a 4))) (C := RX6) (T := TX6) (N := 11) hx hb hts hi6 hown hK hP 0 rfl rfl 3 (by decide) (hts (.fieldLink RX6 37 "GuardedCalls" "breaker" "LGuardedCalls$Breaker;") (by decide +kernel)) (fun _ h9 => h9) rfl dX6_trips_36 ?_
        refine lv_dload_n hx hb dX6_trips_39 rfl (lv_at hl 2 rfl) ?_
        refine va_putN (D := D) (ci := 0) (v := .double p_s) (ty := .double) (C := RX0) (T := TX0) (N := 15) hx hb hts hi0 tyX0 tyX0_ok nmX0 hown hK hP hD hS 4 rfl rfl 7 (by decide) (nw_use hKK.2 (w := .fieldLinkNest "GuardedCalls" 102 "GuardedCalls$Breaker" "sluggishness" "D" "GuardedCalls") (by decide +kernel)) (fun _ h9 => h9) rfl (by decide +kernel) rfl rfl (Nat.le_of_ble_eq_true rfl) dX6_trips_40 (fun H locs hP hD hS => ?_)
        have hP : va_P D vwCl (cw cI a g (vf_upd (vf_upd d 0 p_f) 1 p_s) F) H := hP
        have hD : va_D A (cw cI a g (vf_upd (vf_upd d 0 p_f) 1 p_s) F) := hD
        refine lv_aload_n hx hb dX6_trips_43 rfl (lv_at hl 0 rfl) ?_
        refine va_get (D := D) (ci := 6) (v := .ref ((a 4))) (C := RX6) (T := TX6) (N := 11) hx hb hts hi6 hown hK hP 0 rfl rfl 3 (by decide) (hts (.fieldLink RX6 37 "GuardedCalls" "breaker" "LGuardedCalls$Breaker;") (by decide +kernel)) (fun _ h9 => h9) rfl dX6_trips_44 ?_
        refine lv_iload hx hb dX6_trips_47 (lv_at hl 3 rfl) ?_
        refine va_putN (D := D) (ci := 0) (v := .int p_k) (ty := .int) (C := RX0) (T := TX0) (N := 15) hx hb hts hi0 tyX0 tyX0_ok nmX0 hown hK hP hD hS 4 rfl rfl 8 (by decide) (nw_use hKK.2 (w := .fieldLinkNest "GuardedCalls" 105 "GuardedCalls$Breaker" "slow" "I" "GuardedCalls") (by decide +kernel)) (fun _ h9 => h9) rfl (by decide +kernel) rfl rfl (Nat.le_of_ble_eq_true rfl) dX6_trips_49 (fun H locs hP hD hS => ?_)
        have hP : va_P D vwCl (cw cI a (upd g 15 p_k) (vf_upd (vf_upd d 0 p_f) 1 p_s) F) H := hP
        have hD : va_D A (cw cI a (upd g 15 p_k) (vf_upd (vf_upd d 0 p_f) 1 p_s) F) := hD
        refine lv_iconst (v := 1) hx hb dX6_trips_52 (by decide) ?_
        exact W.zret (v := 1) hx hb hr (rfl) (fun t ht hW => ⟨⟨_, (upd g 15 p_k, vf_upd (vf_upd d 0 p_f) 1 p_s, F), rfl, ⟨by simp [sp_trips, c2, c4, c6], hI, rfl, rfl, rfl⟩, by rw [ht]; exact hP, hD⟩, hS.F ht⟩) hS.2.2 dX6_trips_53
      · refine lv_iconst (v := 0) hx hb dX6_trips_25 (by decide) ?_
        exact W.zret (v := 0) hx hb hr (rfl) (fun t ht hW => ⟨⟨_, (g, d, F), rfl, ⟨by simp [sp_trips, c2, c4, c6], hI, rfl, rfl, rfl⟩, by rw [ht]; exact hP, hD⟩, hS.F ht⟩) hS.2.2 dX6_trips_26
set_option maxHeartbeats 4000000 in
set_option maxRecDepth 100000 in
theorem s_X6_bulkhead (l : Launch) (D : va_G) (cI : ClassId) (a : Nat → Nat) (sz : Nat) (g : Nat → Int32) (d : Nat → UInt64) (F : Nat → Nat → Int32) (p_k : Int32) (hI : CI g d) : Met l yX6_bulkhead wsX6_bulkhead ({ frames := 1, cells := 0, slots := 0, locals := 22 }) (gP (KC D cI) D (cw cI a g d F) sz [.ref (a 0), .int p_k]) (va_Qi (fun (r : Int32) (u : SS) => (r = sp1 p_k 0 5) ∧ CP g F u) (gB D (wfC cI a) (va_A (cw cI a g d F) sz)) (va_A (cw cI a g d F) sz)) 0 0 (va_A (cw cI a g d F) sz) := by
  refine Met.ofW (cc := cX6_bulkhead) (maxL := 2) (ret := (some .boolean)) (by decide) rfl ?_
  intro p e s m args below meth c s₁ B hml hv
  obtain ⟨rfl, hsz, hP, hD0, hKK⟩ := hv
  have hx := B.exec
  have hb := B.bytes
  have hr := B.returns
  have hts := atoms_spec (ws := wsX6_bulkhead) B.pre
  have hown : s.vm.findClass RX6 = some m.cls := findClass_of_methodNamed B.named
  have hlocks := B.notSynchronized
  subst hsz
  have hK := hKK.1
  have hok := KC_ok D cI
  have hD := hD0.self (sz := s.heap.size)
  generalize hAe : va_A (cw cI a g d F) s.heap.size = A at hD ⊢
  have hi6 : ∀ w ∈ wsX60, w ∈ wsX6_bulkhead := fun w h => List.mem_cons_of_mem _ (List.mem_append_right _ h)
  have hA : ∀ q : Nat, s.heap.size ≤ q → A q := fun q h => by rw [← hAe]; exact Or.inr h
  have hS : va_S A s.heap s.heap [] := va_S.rf
  have hP : va_P D vwCl (cw cI a g d F) s.heap := hP
  have hl := lv_entry ([.ref ((a 0)), .int p_k]) (n := 2) (Nat.le_of_ble_eq_true rfl)
  rw [lg_entry_eq]
  generalize (lg_sl ([.ref ((a 0)), .int p_k]) ++ List.replicate (2 - (lg_sl ([.ref ((a 0)), .int p_k])).length) Slot.unset).toArray = ls at hl ⊢
  have hl : lv_has ls 2 [(0, .ref ((a 0))), (1, .int p_k)] := hl
  refine lv_iload_n hx hb dX6_bulkhead_0 rfl (lv_at hl 1 rfl) ?_
  refine lv_iconst (v := 0) hx hb dX6_bulkhead_1 (by decide) ?_
  refine lv_iconst (v := 5) hx hb dX6_bulkhead_2 (by decide) ?_
  refine gc_si (As := [.int p_k, .int 0, .int 5]) (rest := []) ⟨hx, hb, hml, hown, hts⟩ hP hD hS hA (c_X6_isWithin l _ p_k 0 5) (va_cwS 3 hts gX6_bulkhead_X6_isWithin rfl rfl rfl (by decide +kernel) ⟨Nat.le_of_ble_eq_true rfl, Nat.le_of_ble_eq_true rfl⟩) rfl hl.1 rfl (Nat.le_of_ble_eq_true rfl) dX6_bulkhead_3 ⟨Nat.le_of_ble_eq_true rfl, Nat.le_of_ble_eq_true rfl⟩ (fun r1 H locs hw1 hP hS => ?_)
  subst hw1
  refine lv_if_ne (tgt := 11) hx hb dX6_bulkhead_6 (by decide) (fun c2 => ?_) (fun c2 => ?_)
  · refine lv_aload_n hx hb dX6_bulkhead_11 rfl (lv_at hl 0 rfl) ?_
    refine lv_iload_n hx hb dX6_bulkhead_12 rfl (lv_at hl 1 rfl) ?_
    refine va_put (D := D) (ci := 6) (v := .int p_k) (ty := .int) (C := RX6) (T := TX6) (N := 11) hx hb hts hi6 tyX6 tyX6_ok nmX6 hown hK hP hD hS 0 rfl rfl 8 (by decide) (hts (.fieldLink RX6 63 "GuardedCalls" "capacity" "I") (by decide +kernel)) (fun _ h9 => h9) rfl (by decide +kernel) rfl rfl (Nat.le_of_ble_eq_true rfl) dX6_bulkhead_13 (fun H locs hP hD hS => ?_)
    have hP : va_P D vwCl (cw cI a (upd g 1 p_k) d F) H := hP
    have hD : va_D A (cw cI a (upd g 1 p_k) d F) := hD
    refine lv_iconst (v := 1) hx hb dX6_bulkhead_16 (by decide) ?_
    exact W.zret (v := 1) hx hb hr (rfl) (fun t ht hW => ⟨⟨_, (upd g 1 p_k, d, F), rfl, ⟨by simp [sp1, c2], hI, rfl, rfl, rfl⟩, by rw [ht]; exact hP, hD⟩, hS.F ht⟩) hS.2.2 dX6_bulkhead_17
  · refine lv_iconst (v := 0) hx hb dX6_bulkhead_9 (by decide) ?_
    exact W.zret (v := 0) hx hb hr (rfl) (fun t ht hW => ⟨⟨_, (g, d, F), rfl, ⟨by simp [sp1, c2], hI, rfl, rfl, rfl⟩, by rw [ht]; exact hP, hD⟩, hS.F ht⟩) hS.2.2 dX6_bulkhead_10
set_option maxHeartbeats 4000000 in
set_option maxRecDepth 100000 in
theorem s_X6_use (l : Launch) (D : va_G) (cI : ClassId) (a : Nat → Nat) (sz : Nat) (g : Nat → Int32) (d : Nat → UInt64) (F : Nat → Nat → Int32) (p_k : Int32) (hI : CI g d) : Met l yX6_use wsX6_use ({ frames := 1, cells := 0, slots := 0, locals := 22 }) (gP (KC D cI) D (cw cI a g d F) sz [.ref (a 0), .int p_k]) (va_Qi (fun (r : Int32) (u : SS) => r = spu (g 2) p_k ∧ CI u.1 u.2.1 ∧ u.1 0 = g 0 ∧ u.1 2 = (if spu (g 2) p_k = 0 then g 2 else g 2 + p_k) ∧ u.2.2 0 = F 0) (gB D (wfC cI a) (va_A (cw cI a g d F) sz)) (va_A (cw cI a g d F) sz)) 0 0 (va_A (cw cI a g d F) sz) := by
  refine Met.ofW (cc := cX6_use) (maxL := 2) (ret := (some .boolean)) (by decide) rfl ?_
  intro p e s m args below meth c s₁ B hml hv
  obtain ⟨rfl, hsz, hP, hD0, hKK⟩ := hv
  have hx := B.exec
  have hb := B.bytes
  have hr := B.returns
  have hts := atoms_spec (ws := wsX6_use) B.pre
  have hown : s.vm.findClass RX6 = some m.cls := findClass_of_methodNamed B.named
  have hlocks := B.notSynchronized
  subst hsz
  have hK := hKK.1
  have hok := KC_ok D cI
  have hD := hD0.self (sz := s.heap.size)
  generalize hAe : va_A (cw cI a g d F) s.heap.size = A at hD ⊢
  have hi6 : ∀ w ∈ wsX60, w ∈ wsX6_use := fun w h => List.mem_cons_of_mem _ (List.mem_append_right _ h)
  have hA : ∀ q : Nat, s.heap.size ≤ q → A q := fun q h => by rw [← hAe]; exact Or.inr h
  have hS : va_S A s.heap s.heap [] := va_S.rf
  have hP : va_P D vwCl (cw cI a g d F) s.heap := hP
  have hl := lv_entry ([.ref ((a 0)), .int p_k]) (n := 2) (Nat.le_of_ble_eq_true rfl)
  rw [lg_entry_eq]
  generalize (lg_sl ([.ref ((a 0)), .int p_k]) ++ List.replicate (2 - (lg_sl ([.ref ((a 0)), .int p_k])).length) Slot.unset).toArray = ls at hl ⊢
  have hl : lv_has ls 2 [(0, .ref ((a 0))), (1, .int p_k)] := hl
  refine lv_iload_n hx hb dX6_use_0 rfl (lv_at hl 1 rfl) ?_
  refine lv_aload_n hx hb dX6_use_1 rfl (lv_at hl 0 rfl) ?_
  refine va_get (D := D) (ci := 6) (v := .int ((g 2))) (C := RX6) (T := TX6) (N := 11) hx hb hts hi6 hown hK hP 0 rfl rfl 9 (by decide) (hts (.fieldLink RX6 66 "GuardedCalls" "used" "I") (by decide +kernel)) (fun _ h9 => h9) rfl dX6_use_2 ?_
  refine lv_ineg hx hb dX6_use_5 ?_
  refine lv_topi (fun x1 e1 => ?_)
  refine lv_bipush (v := 9) hx hb dX6_use_6 (by decide) ?_
  refine lv_aload_n hx hb dX6_use_8 rfl (lv_at hl 0 rfl) ?_
  refine va_get (D := D) (ci := 6) (v := .int ((g 2))) (C := RX6) (T := TX6) (N := 11) hx hb hts hi6 hown hK hP 0 rfl rfl 9 (by decide) (hts (.fieldLink RX6 66 "GuardedCalls" "used" "I") (by decide +kernel)) (fun _ h9 => h9) rfl dX6_use_9 ?_
  refine lv_isub hx hb dX6_use_12 ?_
  refine lv_topi (fun x2 e2 => ?_)
  refine gc_si (As := [.int p_k, .int x1, .int x2]) (rest := []) ⟨hx, hb, hml, hown, hts⟩ hP hD hS hA (c_X6_isWithin l _ p_k x1 x2) (va_cwS 3 hts gX6_use_X6_isWithin rfl rfl rfl (by decide +kernel) ⟨Nat.le_of_ble_eq_true rfl, Nat.le_of_ble_eq_true rfl⟩) rfl hl.1 rfl (Nat.le_of_ble_eq_true rfl) dX6_use_13 ⟨Nat.le_of_ble_eq_true rfl, Nat.le_of_ble_eq_true rfl⟩ (fun r3 H locs hw3 hP hS => ?_)
  subst hw3
  refine lv_if_ne (tgt := 21) hx hb dX6_use_16 (by decide) (fun c4 => ?_) (fun c4 => ?_)
  · refine lv_aload_n hx hb dX6_use_21 rfl (lv_at hl 0 rfl) ?_
    refine lv_dup hx hb dX6_use_22 rfl ?_
    refine va_get (D := D) (ci := 6) (v := .int ((g 2))) (C := RX6) (T := TX6) (N := 11) hx hb hts hi6 hown hK hP 0 rfl rfl 9 (by decide) (hts (.fieldLink RX6 66 "GuardedCalls" "used" "I") (by decide +kernel)) (fun _ h9 => h9) rfl dX6_use_23 ?_
    refine lv_iload_n hx hb dX6_use_26 rfl (lv_at hl 1 rfl) ?_
    refine lv_iadd hx hb dX6_use_27 ?_
    refine lv_topi (fun x5 e5 => ?_)
    refine va_put (D := D) (ci := 6) (v := .int x5) (ty := .int) (C := RX6) (T := TX6) (N := 11) hx hb hts hi6 tyX6 tyX6_ok nmX6 hown hK hP hD hS 0 rfl rfl 9 (by decide) (hts (.fieldLink RX6 66 "GuardedCalls" "used" "I") (by decide +kernel)) (fun _ h9 => h9) rfl (by decide +kernel) rfl rfl (Nat.le_of_ble_eq_true rfl) dX6_use_28 (fun H locs hP hD hS => ?_)
    have hP : va_P D vwCl (cw cI a (upd g 2 x5) d F) H := hP
    have hD : va_D A (cw cI a (upd g 2 x5) d F) := hD
    refine lv_iconst (v := 1) hx hb dX6_use_31 (by decide) ?_
    exact W.zret (v := 1) hx hb hr (rfl) (fun t ht hW => ⟨⟨_, (upd g 2 x5, d, F), rfl, ⟨by rw [e1, e2] at c4; simp [spu, c4], hI, rfl, by rw [e1, e2] at c4; show x5 = _; rw [e5]; simp [spu, c4], rfl⟩, by rw [ht]; exact hP, hD⟩, hS.F ht⟩) hS.2.2 dX6_use_32
  · refine lv_iconst (v := 0) hx hb dX6_use_19 (by decide) ?_
    exact W.zret (v := 0) hx hb hr (rfl) (fun t ht hW => ⟨⟨_, (g, d, F), rfl, ⟨by rw [e1, e2] at c4; simp [spu, c4], hI, rfl, by rw [e1, e2] at c4; simp [spu, c4], rfl⟩, by rw [ht]; exact hP, hD⟩, hS.F ht⟩) hS.2.2 dX6_use_20
set_option maxHeartbeats 4000000 in
set_option maxRecDepth 100000 in
theorem s_X6_limiter (l : Launch) (D : va_G) (cI : ClassId) (a : Nat → Nat) (sz : Nat) (g : Nat → Int32) (d : Nat → UInt64) (F : Nat → Nat → Int32) (p_p : Int32) (p_l : Int32) (p_w : Int32) (hI : CI g d) : Met l yX6_limiter wsX6_limiter ({ frames := 2, cells := 0, slots := 0, locals := 40 }) (gP (KC D cI) D (cw cI a g d F) sz [.ref (a 0), .int p_p, .int p_l, .int p_w]) (va_Qi (fun (r : Int32) (u : SS) => (r = sp_lim p_p p_l p_w) ∧ CP g F u) (gB D (wfC cI a) (va_A (cw cI a g d F) sz)) (va_A (cw cI a g d F) sz)) 0 0 (va_A (cw cI a g d F) sz) := by
  refine Met.ofW (cc := cX6_limiter) (maxL := 4) (ret := (some .boolean)) (by decide) rfl ?_
  intro p e s m args below meth c s₁ B hml hv
  obtain ⟨rfl, hsz, hP, hD0, hKK⟩ := hv
  have hx := B.exec
  have hb := B.bytes
  have hr := B.returns
  have hts := atoms_spec (ws := wsX6_limiter) B.pre
  have hown : s.vm.findClass RX6 = some m.cls := findClass_of_methodNamed B.named
  have hlocks := B.notSynchronized
  subst hsz
  have hK := hKK.1
  have hok := KC_ok D cI
  have hD := hD0.self (sz := s.heap.size)
  generalize hAe : va_A (cw cI a g d F) s.heap.size = A at hD ⊢
  have hi6 : ∀ w ∈ wsX60, w ∈ wsX6_limiter := fun w h => List.mem_cons_of_mem _ (List.mem_append_left _ (List.mem_append_left _ (List.mem_append_right _ h)))
  have hi3 : ∀ w ∈ wsX30, w ∈ wsX6_limiter := fun w h => List.mem_cons_of_mem _ (List.mem_append_left _ (List.mem_append_right _ h))
  have hi1 : ∀ w ∈ wsX10, w ∈ wsX6_limiter := fun w h => List.mem_cons_of_mem _ (List.mem_append_right _ h)
  have hA : ∀ q : Nat, s.heap.size ≤ q → A q := fun q h => by rw [← hAe]; exact Or.inr h
  have hS : va_S A s.heap s.heap [] := va_S.rf
  have hP : va_P D vwCl (cw cI a g d F) s.heap := hP
  have hl := lv_entry ([.ref ((a 0)), .int p_p, .int p_l, .int p_w]) (n := 4) (Nat.le_of_ble_eq_true rfl)
  rw [lg_entry_eq]
  generalize (lg_sl ([.ref ((a 0)), .int p_p, .int p_l, .int p_w]) ++ List.replicate (4 - (lg_sl ([.ref ((a 0)), .int p_p, .int p_l, .int p_w])).length) Slot.unset).toArray = ls at hl ⊢
  have hl : lv_has ls 4 [(0, .ref ((a 0))), (1, .int p_p), (2, .int p_l), (3, .int p_w)] := hl
  refine lv_iload_n hx hb dX6_limiter_0 rfl (lv_at hl 1 rfl) ?_
  refine lv_iconst (v := 1) hx hb dX6_limiter_1 (by decide) ?_
  refine lv_bipush (v := 50) hx hb dX6_limiter_2 (by decide) ?_
  refine gc_si (As := [.int p_p, .int 1, .int 50]) (rest := []) ⟨hx, hb, hml, hown, hts⟩ hP hD hS hA (c_X6_isWithin l _ p_p 1 50) (va_cwS 3 hts gX6_limiter_X6_isWithin rfl rfl rfl (by decide +kernel) ⟨Nat.le_of_ble_eq_true rfl, Nat.le_of_ble_eq_true rfl⟩) rfl hl.1 rfl (Nat.le_of_ble_eq_true rfl) dX6_limiter_4 ⟨Nat.le_of_ble_eq_true rfl, Nat.le_of_ble_eq_true rfl⟩ (fun r1 H locs hw1 hP hS => ?_)
  subst hw1
  refine lv_if_eq (tgt := 29) hx hb dX6_limiter_7 (by decide) (fun c2 => ?_) (fun c2 => ?_)
  · refine lv_iconst (v := 0) hx hb dX6_limiter_29 (by decide) ?_
    exact W.zret (v := 0) hx hb hr (rfl) (fun t ht hW => ⟨⟨_, (g, d, F), rfl, ⟨by simp [sp_lim, c2], hI, rfl, rfl, rfl⟩, by rw [ht]; exact hP, hD⟩, hS.F ht⟩) hS.2.2 dX6_limiter_30
  · refine lv_iload_n hx hb dX6_limiter_10 rfl (lv_at hl 2 rfl) ?_
    refine lv_iconst (v := 1) hx hb dX6_limiter_11 (by decide) ?_
    refine lv_iconst (v := 5) hx hb dX6_limiter_12 (by decide) ?_
    refine gc_si (As := [.int p_l, .int 1, .int 5]) (rest := []) ⟨hx, hb, hml, hown, hts⟩ hP hD hS hA (c_X6_isWithin l _ p_l 1 5) (va_cwS 3 hts gX6_limiter_X6_isWithin rfl rfl rfl (by decide +kernel) ⟨Nat.le_of_ble_eq_true rfl, Nat.le_of_ble_eq_true rfl⟩) rfl hl.1 rfl (Nat.le_of_ble_eq_true rfl) dX6_limiter_13 ⟨Nat.le_of_ble_eq_true rfl, Nat.le_of_ble_eq_true rfl⟩ (fun r3 H locs hw3 hP hS => ?_)
    subst hw3
    refine lv_if_eq (tgt := 29) hx hb dX6_limiter_16 (by decide) (fun c4 => ?_) (fun c4 => ?_)
    · refine lv_iconst (v := 0) hx hb dX6_limiter_29 (by decide) ?_
      exact W.zret (v := 0) hx hb hr (rfl) (fun t ht hW => ⟨⟨_, (g, d, F), rfl, ⟨by simp [sp_lim, c2, c4], hI, rfl, rfl, rfl⟩, by rw [ht]; exact hP, hD⟩, hS.F ht⟩) hS.2.2 dX6_limiter_30
    · refine lv_iload_n hx hb dX6_limiter_19 rfl (lv_at hl 3 rfl) ?_
      refine lv_iconst (v := 0) hx hb dX6_limiter_20 (by decide) ?_
      refine lv_bipush (v := 100) hx hb dX6_limiter_21 (by decide) ?_
      refine gc_si (As := [.int p_w, .int 0, .int 100]) (rest := []) ⟨hx, hb, hml, hown, hts⟩ hP hD hS hA (c_X6_isWithin l _ p_w 0 100) (va_cwS 3 hts gX6_limiter_X6_isWithin rfl rfl rfl (by decide +kernel) ⟨Nat.le_of_ble_eq_true rfl, Nat.le_of_ble_eq_true rfl⟩) rfl hl.1 rfl (Nat.le_of_ble_eq_true rfl) dX6_limiter_23 ⟨Nat.le_of_ble_eq_true rfl, Nat.le_of_ble_eq_true rfl⟩ (fun r5 H locs hw5 hP hS => ?_)
      subst hw5
      refine lv_if_ne (tgt := 31) hx hb dX6_limiter_26 (by decide) (fun c6 => ?_) (fun c6 => ?_)
      · refine lv_aload_n hx hb dX6_limiter_31 rfl (lv_at hl 0 rfl) ?_
        refine va_get (D := D) (ci := 6) (v := .ref ((a 5))) (C := RX6) (T := TX6) (N := 11) hx hb hts hi6 hown hK hP 0 rfl rfl 4 (by decide) (hts (.fieldLink RX6 44 "GuardedCalls" "limiter" "LGuardedCalls$Limiter;") (by decide +kernel)) (fun _ h9 => h9) rfl dX6_limiter_32 ?_
        refine lv_iload_n hx hb dX6_limiter_35 rfl (lv_at hl 1 rfl) ?_
        refine va_putN (D := D) (ci := 3) (v := .int p_p) (ty := .int) (C := RX3) (T := TX3) (N := 7) hx hb hts hi3 tyX3 tyX3_ok nmX3 hown hK hP hD hS 5 rfl rfl 2 (by decide) (nw_use hKK.2 (w := .fieldLinkNest "GuardedCalls" 108 "GuardedCalls$Limiter" "period" "I" "GuardedCalls") (by decide +kernel)) (fun _ h9 => h9) rfl (by decide +kernel) rfl rfl (Nat.le_of_ble_eq_true rfl) dX6_limiter_36 (fun H locs hP hD hS => ?_)
        have hP : va_P D vwCl (cw cI a (upd g 22 p_p) d F) H := hP
        have hD : va_D A (cw cI a (upd g 22 p_p) d F) := hD
        refine lv_aload_n hx hb dX6_limiter_39 rfl (lv_at hl 0 rfl) ?_
        refine va_get (D := D) (ci := 6) (v := .ref ((a 5))) (C := RX6) (T := TX6) (N := 11) hx hb hts hi6 hown hK hP 0 rfl rfl 4 (by decide) (hts (.fieldLink RX6 44 "GuardedCalls" "limiter" "LGuardedCalls$Limiter;") (by decide +kernel)) (fun _ h9 => h9) rfl dX6_limiter_40 ?_
        refine lv_iload_n hx hb dX6_limiter_43 rfl (lv_at hl 2 rfl) ?_
        refine va_putN (D := D) (ci := 3) (v := .int p_l) (ty := .int) (C := RX3) (T := TX3) (N := 7) hx hb hts hi3 tyX3 tyX3_ok nmX3 hown hK hP hD hS 5 rfl rfl 3 (by decide) (nw_use hKK.2 (w := .fieldLinkNest "GuardedCalls" 111 "GuardedCalls$Limiter" "limit" "I" "GuardedCalls") (by decide +kernel)) (fun _ h9 => h9) rfl (by decide +kernel) rfl rfl (Nat.le_of_ble_eq_true rfl) dX6_limiter_44 (fun H locs hP hD hS => ?_)
        have hP : va_P D vwCl (cw cI a (upd (upd g 22 p_p) 23 p_l) d F) H := hP
        have hD : va_D A (cw cI a (upd (upd g 22 p_p) 23 p_l) d F) := hD
        refine lv_aload_n hx hb dX6_limiter_47 rfl (lv_at hl 0 rfl) ?_
        refine va_get (D := D) (ci := 6) (v := .ref ((a 5))) (C := RX6) (T := TX6) (N := 11) hx hb hts hi6 hown hK hP 0 rfl rfl 4 (by decide) (hts (.fieldLink RX6 44 "GuardedCalls" "limiter" "LGuardedCalls$Limiter;") (by decide +kernel)) (fun _ h9 => h9) rfl dX6_limiter_48 ?_
        refine lv_iload_n hx hb dX6_limiter_51 rfl (lv_at hl 3 rfl) ?_
        refine va_putN (D := D) (ci := 3) (v := .int p_w) (ty := .int) (C := RX3) (T := TX3) (N := 7) hx hb hts hi3 tyX3 tyX3_ok nmX3 hown hK hP hD hS 5 rfl rfl 4 (by decide) (nw_use hKK.2 (w := .fieldLinkNest "GuardedCalls" 114 "GuardedCalls$Limiter" "patience" "I" "GuardedCalls") (by decide +kernel)) (fun _ h9 => h9) rfl (by decide +kernel) rfl rfl (Nat.le_of_ble_eq_true rfl) dX6_limiter_52 (fun H locs hP hD hS => ?_)
        have hP : va_P D vwCl (cw cI a (upd (upd (upd g 22 p_p) 23 p_l) 24 p_w) d F) H := hP
        have hD : va_D A (cw cI a (upd (upd (upd g 22 p_p) 23 p_l) 24 p_w) d F) := hD
        refine lv_aload_n hx hb dX6_limiter_55 rfl (lv_at hl 0 rfl) ?_
        refine va_get (D := D) (ci := 6) (v := .ref ((a 5))) (C := RX6) (T := TX6) (N := 11) hx hb hts hi6 hown hK hP 0 rfl rfl 4 (by decide) (hts (.fieldLink RX6 44 "GuardedCalls" "limiter" "LGuardedCalls$Limiter;") (by decide +kernel)) (fun _ h9 => h9) rfl dX6_limiter_56 ?_
        refine gc_vv (As := []) (rest := []) (w0 := cw cI a (upd (upd (upd g 22 p_p) 23 p_l) 24 p_w) d F) (wc := cw cI a (upd (upd (upd g 22 p_p) 23 p_l) 24 p_w) d F) (wr := []) (wf := wfC cI a) ⟨hx, hb, hml, hown, hts⟩ hKK hok hP hD hS hA [0, 1, 2, 3, 4, 5, 6, 7, 8, 9, 10, 11] [] rfl rfl (by decide) (s_X3_beginCycle l D cI a _ (upd (upd (upd g 22 p_p) 23 p_l) 24 p_w) d F hI) (cwV 0 hts gX6_limiter_X3_beginCycle rfl rfl rfl (by decide +kernel) ⟨Nat.le_of_ble_eq_true rfl, Nat.le_of_ble_eq_true rfl⟩) (va_recv hK hP (ci := 3) (q0 := 5) rfl rfl) rfl hl.1 rfl (Nat.le_of_ble_eq_true rfl) dX6_limiter_59 ⟨Nat.le_of_ble_eq_true rfl, Nat.le_of_ble_eq_true rfl⟩ (fun u7 H locs hw7 hP hD hS => ?_)
        obtain ⟨g7, d7, F7⟩ := u7
        have hP : va_P D vwCl (cw cI a g7 d7 F7) H := hP
        have hD : va_D A (cw cI a g7 d7 F7) := hD
        refine lv_iconst (v := 1) hx hb dX6_limiter_62 (by decide) ?_
        exact W.zret (v := 1) hx hb hr (rfl) (fun t ht hW => ⟨⟨_, (g7, d7, F7), rfl, ⟨by simp [sp_lim, c2, c4, c6], hw7.2.1, hw7.2.2.1, hw7.2.2.2.1, hw7.2.2.2.2⟩, by rw [ht]; exact hP, hD⟩, hS.F ht⟩) hS.2.2 dX6_limiter_63
      · refine lv_iconst (v := 0) hx hb dX6_limiter_29 (by decide) ?_
        exact W.zret (v := 0) hx hb hr (rfl) (fun t ht hW => ⟨⟨_, (g, d, F), rfl, ⟨by simp [sp_lim, c2, c4, c6], hI, rfl, rfl, rfl⟩, by rw [ht]; exact hP, hD⟩, hS.F ht⟩) hS.2.2 dX6_limiter_30
set_option maxHeartbeats 4000000 in
set_option maxRecDepth 100000 in
theorem s_X6_retry (l : Launch) (D : va_G) (cI : ClassId) (a : Nat → Nat) (sz : Nat) (g : Nat → Int32) (d : Nat → UInt64) (F : Nat → Nat → Int32) (p_x : Int32) (p_y : Int32) (hI : CI g d) : Met l yX6_retry wsX6_retry ({ frames := 1, cells := 0, slots := 0, locals := 22 }) (gP (KC D cI) D (cw cI a g d F) sz [.ref (a 0), .int p_x, .int p_y]) (va_Qi (fun (r : Int32) (u : SS) => (r = sp_retry p_x p_y) ∧ CP g F u) (gB D (wfC cI a) (va_A (cw cI a g d F) sz)) (va_A (cw cI a g d F) sz)) 0 0 (va_A (cw cI a g d F) sz) := by
  refine Met.ofW (cc := cX6_retry) (maxL := 3) (ret := (some .boolean)) (by decide) rfl ?_
  intro p e s m args below meth c s₁ B hml hv
  obtain ⟨rfl, hsz, hP, hD0, hKK⟩ := hv
  have hx := B.exec
  have hb := B.bytes
  have hr := B.returns
  have hts := atoms_spec (ws := wsX6_retry) B.pre
  have hown : s.vm.findClass RX6 = some m.cls := findClass_of_methodNamed B.named
  have hlocks := B.notSynchronized
  subst hsz
  have hK := hKK.1
  have hok := KC_ok D cI
  have hD := hD0.self (sz := s.heap.size)
  generalize hAe : va_A (cw cI a g d F) s.heap.size = A at hD ⊢
  have hi6 : ∀ w ∈ wsX60, w ∈ wsX6_retry := fun w h => List.mem_cons_of_mem _ (List.mem_append_left _ (List.mem_append_right _ h))
  have hi4 : ∀ w ∈ wsX40, w ∈ wsX6_retry := fun w h => List.mem_cons_of_mem _ (List.mem_append_right _ h)
  have hA : ∀ q : Nat, s.heap.size ≤ q → A q := fun q h => by rw [← hAe]; exact Or.inr h
  have hS : va_S A s.heap s.heap [] := va_S.rf
  have hP : va_P D vwCl (cw cI a g d F) s.heap := hP
  have hl := lv_entry ([.ref ((a 0)), .int p_x, .int p_y]) (n := 3) (Nat.le_of_ble_eq_true rfl)
  rw [lg_entry_eq]
  generalize (lg_sl ([.ref ((a 0)), .int p_x, .int p_y]) ++ List.replicate (3 - (lg_sl ([.ref ((a 0)), .int p_x, .int p_y])).length) Slot.unset).toArray = ls at hl ⊢
  have hl : lv_has ls 3 [(0, .ref ((a 0))), (1, .int p_x), (2, .int p_y)] := hl
  refine lv_iload_n hx hb dX6_retry_0 rfl (lv_at hl 1 rfl) ?_
  refine lv_iconst (v := 1) hx hb dX6_retry_1 (by decide) ?_
  refine lv_iconst (v := 5) hx hb dX6_retry_2 (by decide) ?_
  refine gc_si (As := [.int p_x, .int 1, .int 5]) (rest := []) ⟨hx, hb, hml, hown, hts⟩ hP hD hS hA (c_X6_isWithin l _ p_x 1 5) (va_cwS 3 hts gX6_retry_X6_isWithin rfl rfl rfl (by decide +kernel) ⟨Nat.le_of_ble_eq_true rfl, Nat.le_of_ble_eq_true rfl⟩) rfl hl.1 rfl (Nat.le_of_ble_eq_true rfl) dX6_retry_3 ⟨Nat.le_of_ble_eq_true rfl, Nat.le_of_ble_eq_true rfl⟩ (fun r1 H locs hw1 hP hS => ?_)
  subst hw1
  refine lv_if_eq (tgt := 19) hx hb dX6_retry_6 (by decide) (fun c2 => ?_) (fun c2 => ?_)
  · refine lv_iconst (v := 0) hx hb dX6_retry_19 (by decide) ?_
    exact W.zret (v := 0) hx hb hr (rfl) (fun t ht hW => ⟨⟨_, (g, d, F), rfl, ⟨by simp [sp_retry, c2], hI, rfl, rfl, rfl⟩, by rw [ht]; exact hP, hD⟩, hS.F ht⟩) hS.2.2 dX6_retry_20
  · refine lv_iload_n hx hb dX6_retry_9 rfl (lv_at hl 2 rfl) ?_
    refine lv_iconst (v := 0) hx hb dX6_retry_10 (by decide) ?_
    refine lv_bipush (v := 63) hx hb dX6_retry_11 (by decide) ?_
    refine gc_si (As := [.int p_y, .int 0, .int 63]) (rest := []) ⟨hx, hb, hml, hown, hts⟩ hP hD hS hA (c_X6_isWithin l _ p_y 0 63) (va_cwS 3 hts gX6_retry_X6_isWithin rfl rfl rfl (by decide +kernel) ⟨Nat.le_of_ble_eq_true rfl, Nat.le_of_ble_eq_true rfl⟩) rfl hl.1 rfl (Nat.le_of_ble_eq_true rfl) dX6_retry_13 ⟨Nat.le_of_ble_eq_true rfl, Nat.le_of_ble_eq_true rfl⟩ (fun r3 H locs hw3 hP hS => ?_)
    subst hw3
    refine lv_if_ne (tgt := 21) hx hb dX6_retry_16 (by decide) (fun c4 => ?_) (fun c4 => ?_)
    · refine lv_aload_n hx hb dX6_retry_21 rfl (lv_at hl 0 rfl) ?_
      refine va_get (D := D) (ci := 6) (v := .ref ((a 6))) (C := RX6) (T := TX6) (N := 11) hx hb hts hi6 hown hK hP 0 rfl rfl 5 (by decide) (hts (.fieldLink RX6 51 "GuardedCalls" "retry" "LGuardedCalls$Retry;") (by decide +kernel)) (fun _ h9 => h9) rfl dX6_retry_22 ?_
      refine lv_iload_n hx hb dX6_retry_25 rfl (lv_at hl 1 rfl) ?_
      refine va_putN (D := D) (ci := 4) (v := .int p_x) (ty := .int) (C := RX4) (T := TX4) (N := 5) hx hb hts hi4 tyX4 tyX4_ok nmX4 hown hK hP hD hS 6 rfl rfl 0 (by decide) (nw_use hKK.2 (w := .fieldLinkNest "GuardedCalls" 120 "GuardedCalls$Retry" "attempts" "I" "GuardedCalls") (by decide +kernel)) (fun _ h9 => h9) rfl (by decide +kernel) rfl rfl (Nat.le_of_ble_eq_true rfl) dX6_retry_26 (fun H locs hP hD hS => ?_)
      have hP : va_P D vwCl (cw cI a (upd g 27 p_x) d F) H := hP
      have hD : va_D A (cw cI a (upd g 27 p_x) d F) := hD
      refine lv_aload_n hx hb dX6_retry_29 rfl (lv_at hl 0 rfl) ?_
      refine va_get (D := D) (ci := 6) (v := .ref ((a 6))) (C := RX6) (T := TX6) (N := 11) hx hb hts hi6 hown hK hP 0 rfl rfl 5 (by decide) (hts (.fieldLink RX6 51 "GuardedCalls" "retry" "LGuardedCalls$Retry;") (by decide +kernel)) (fun _ h9 => h9) rfl dX6_retry_30 ?_
      refine lv_iload_n hx hb dX6_retry_33 rfl (lv_at hl 2 rfl) ?_
      refine va_putN (D := D) (ci := 4) (v := .int p_y) (ty := .int) (C := RX4) (T := TX4) (N := 5) hx hb hts hi4 tyX4 tyX4_ok nmX4 hown hK hP hD hS 6 rfl rfl 1 (by decide) (nw_use hKK.2 (w := .fieldLinkNest "GuardedCalls" 123 "GuardedCalls$Retry" "again" "I" "GuardedCalls") (by decide +kernel)) (fun _ h9 => h9) rfl (by decide +kernel) rfl rfl (Nat.le_of_ble_eq_true rfl) dX6_retry_34 (fun H locs hP hD hS => ?_)
      have hP : va_P D vwCl (cw cI a (upd (upd g 27 p_x) 28 p_y) d F) H := hP
      have hD : va_D A (cw cI a (upd (upd g 27 p_x) 28 p_y) d F) := hD
      refine lv_iconst (v := 1) hx hb dX6_retry_37 (by decide) ?_
      exact W.zret (v := 1) hx hb hr (rfl) (fun t ht hW => ⟨⟨_, (upd (upd g 27 p_x) 28 p_y, d, F), rfl, ⟨by simp [sp_retry, c2, c4], hI, rfl, rfl, rfl⟩, by rw [ht]; exact hP, hD⟩, hS.F ht⟩) hS.2.2 dX6_retry_38
    · refine lv_iconst (v := 0) hx hb dX6_retry_19 (by decide) ?_
      exact W.zret (v := 0) hx hb hr (rfl) (fun t ht hW => ⟨⟨_, (g, d, F), rfl, ⟨by simp [sp_retry, c2, c4], hI, rfl, rfl, rfl⟩, by rw [ht]; exact hP, hD⟩, hS.F ht⟩) hS.2.2 dX6_retry_20
set_option maxHeartbeats 4000000 in
set_option maxRecDepth 100000 in
theorem s_X6_backoff (l : Launch) (D : va_G) (cI : ClassId) (a : Nat → Nat) (sz : Nat) (g : Nat → Int32) (d : Nat → UInt64) (F : Nat → Nat → Int32) (p_f : UInt64) (p_t : UInt64) (p_m : UInt64) (hI : CI g d) : Met l yX6_backoff wsX6_backoff ({ frames := 1, cells := 0, slots := 0, locals := 25 }) (gP (KC D cI) D (cw cI a g d F) sz [.ref (a 0), .double p_f, .double p_t, .double p_m]) (va_Qi (fun (r : Int32) (u : SS) => (r = sp_back p_f p_t p_m) ∧ CP g F u) (gB D (wfC cI a) (va_A (cw cI a g d F) sz)) (va_A (cw cI a g d F) sz)) 0 0 (va_A (cw cI a g d F) sz) := by
  refine Met.ofW (cc := cX6_backoff) (maxL := 7) (ret := (some .boolean)) (by decide) rfl ?_
  intro p e s m args below meth c s₁ B hml hv
  obtain ⟨rfl, hsz, hP, hD0, hKK⟩ := hv
  have hx := B.exec
  have hb := B.bytes
  have hr := B.returns
  have hts := atoms_spec (ws := wsX6_backoff) B.pre
  have hown : s.vm.findClass RX6 = some m.cls := findClass_of_methodNamed B.named
  have hlocks := B.notSynchronized
  subst hsz
  have hK := hKK.1
  have hok := KC_ok D cI
  have hD := hD0.self (sz := s.heap.size)
  generalize hAe : va_A (cw cI a g d F) s.heap.size = A at hD ⊢
  have hi6 : ∀ w ∈ wsX60, w ∈ wsX6_backoff := fun w h => List.mem_cons_of_mem _ (List.mem_append_left _ (List.mem_append_right _ h))
  have hi4 : ∀ w ∈ wsX40, w ∈ wsX6_backoff := fun w h => List.mem_cons_of_mem _ (List.mem_append_right _ h)
  have hA : ∀ q : Nat, s.heap.size ≤ q → A q := fun q h => by rw [← hAe]; exact Or.inr h
  have hS : va_S A s.heap s.heap [] := va_S.rf
  have hP : va_P D vwCl (cw cI a g d F) s.heap := hP
  have hl := lv_entry ([.ref ((a 0)), .double p_f, .double p_t, .double p_m]) (n := 7) (Nat.le_of_ble_eq_true rfl)
  rw [lg_entry_eq]
  generalize (lg_sl ([.ref ((a 0)), .double p_f, .double p_t, .double p_m]) ++ List.replicate (7 - (lg_sl ([.ref ((a 0)), .double p_f, .double p_t, .double p_m])).length) Slot.unset).toArray = ls at hl ⊢
  have hl : lv_has ls 7 [(0, .ref ((a 0))), (1, .double p_f), (3, .double p_t), (5, .double p_m)] := hl
  refine lv_dload_n hx hb dX6_backoff_0 rfl (lv_at hl 1 rfl) ?_
  refine lv_dconst0 hx hb dX6_backoff_1 ?_
  refine lv_ldc2d (v := 4632233691727265792) hx hb hown (hts (.constantDouble RX6 126 (4632233691727265792)) (by decide +kernel)) dX6_backoff_2 ?_
  refine gc_si (As := [.double p_f, .double FP.dconst0, .double 4632233691727265792]) (rest := []) ⟨hx, hb, hml, hown, hts⟩ hP hD hS hA (c_X6_isBetween l _ p_f FP.dconst0 4632233691727265792) (va_cwS 3 hts gX6_backoff_X6_isBetween rfl rfl rfl (by decide +kernel) ⟨Nat.le_of_ble_eq_true rfl, Nat.le_of_ble_eq_true rfl⟩) rfl hl.1 rfl (Nat.le_of_ble_eq_true rfl) dX6_backoff_5 ⟨Nat.le_of_ble_eq_true rfl, Nat.le_of_ble_eq_true rfl⟩ (fun r1 H locs hw1 hP hS => ?_)
  subst hw1
  refine lv_if_eq (tgt := 36) hx hb dX6_backoff_8 (by decide) (fun c2 => ?_) (fun c2 => ?_)
  · refine lv_iconst (v := 0) hx hb dX6_backoff_36 (by decide) ?_
    exact W.zret (v := 0) hx hb hr (rfl) (fun t ht hW => ⟨⟨_, (g, d, F), rfl, ⟨by simp [sp_back, c2], hI, rfl, rfl, rfl⟩, by rw [ht]; exact hP, hD⟩, hS.F ht⟩) hS.2.2 dX6_backoff_37
  · refine lv_dload_n hx hb dX6_backoff_11 rfl (lv_at hl 2 rfl) ?_
    refine lv_ldc2d (v := 4602678819172646912) hx hb hown (hts (.constantDouble RX6 132 (4602678819172646912)) (by decide +kernel)) dX6_backoff_12 ?_
    refine lv_ldc2d (v := 4616189618054758400) hx hb hown (hts (.constantDouble RX6 134 (4616189618054758400)) (by decide +kernel)) dX6_backoff_15 ?_
    refine gc_si (As := [.double p_t, .double 4602678819172646912, .double 4616189618054758400]) (rest := []) ⟨hx, hb, hml, hown, hts⟩ hP hD hS hA (c_X6_isBetween l _ p_t 4602678819172646912 4616189618054758400) (va_cwS 3 hts gX6_backoff_X6_isBetween rfl rfl rfl (by decide +kernel) ⟨Nat.le_of_ble_eq_true rfl, Nat.le_of_ble_eq_true rfl⟩) rfl hl.1 rfl (Nat.le_of_ble_eq_true rfl) dX6_backoff_18 ⟨Nat.le_of_ble_eq_true rfl, Nat.le_of_ble_eq_true rfl⟩ (fun r3 H locs hw3 hP hS => ?_)
    subst hw3
    refine lv_if_eq (tgt := 36) hx hb dX6_backoff_21 (by decide) (fun c4 => ?_) (fun c4 => ?_)
    · refine lv_iconst (v := 0) hx hb dX6_backoff_36 (by decide) ?_
      exact W.zret (v := 0) hx hb hr (rfl) (fun t ht hW => ⟨⟨_, (g, d, F), rfl, ⟨by simp [sp_back, c2, c4], hI, rfl, rfl, rfl⟩, by rw [ht]; exact hP, hD⟩, hS.F ht⟩) hS.2.2 dX6_backoff_37
    · refine lv_dload hx hb dX6_backoff_24 (lv_at hl 3 rfl) ?_
      refine lv_dconst0 hx hb dX6_backoff_26 ?_
      refine lv_ldc2d (v := 4636737291354636288) hx hb hown (hts (.constantDouble RX6 136 (4636737291354636288)) (by decide +kernel)) dX6_backoff_27 ?_
      refine gc_si (As := [.double p_m, .double FP.dconst0, .double 4636737291354636288]) (rest := []) ⟨hx, hb, hml, hown, hts⟩ hP hD hS hA (c_X6_isBetween l _ p_m FP.dconst0 4636737291354636288) (va_cwS 3 hts gX6_backoff_X6_isBetween rfl rfl rfl (by decide +kernel) ⟨Nat.le_of_ble_eq_true rfl, Nat.le_of_ble_eq_true rfl⟩) rfl hl.1 rfl (Nat.le_of_ble_eq_true rfl) dX6_backoff_30 ⟨Nat.le_of_ble_eq_true rfl, Nat.le_of_ble_eq_true rfl⟩ (fun r5 H locs hw5 hP hS => ?_)
      subst hw5
      refine lv_if_ne (tgt := 38) hx hb dX6_backoff_33 (by decide) (fun c6 => ?_) (fun c6 => ?_)
      · refine lv_aload_n hx hb dX6_backoff_38 rfl (lv_at hl 0 rfl) ?_
        refine va_get (D := D) (ci := 6) (v := .ref ((a 6))) (C := RX6) (T := TX6) (N := 11) hx hb hts hi6 hown hK hP 0 rfl rfl 5 (by decide) (hts (.fieldLink RX6 51 "GuardedCalls" "retry" "LGuardedCalls$Retry;") (by decide +kernel)) (fun _ h9 => h9) rfl dX6_backoff_39 ?_
        refine lv_dload_n hx hb dX6_backoff_42 rfl (lv_at hl 1 rfl) ?_
        refine va_putN (D := D) (ci := 4) (v := .double p_f) (ty := .double) (C := RX4) (T := TX4) (N := 5) hx hb hts hi4 tyX4 tyX4_ok nmX4 hown hK hP hD hS 6 rfl rfl 2 (by decide) (nw_use hKK.2 (w := .fieldLinkNest "GuardedCalls" 138 "GuardedCalls$Retry" "first" "D" "GuardedCalls") (by decide +kernel)) (fun _ h9 => h9) rfl (by decide +kernel) rfl rfl (Nat.le_of_ble_eq_true rfl) dX6_backoff_43 (fun H locs hP hD hS => ?_)
        have hP : va_P D vwCl (cw cI a g (vf_upd d 2 p_f) F) H := hP
        have hD : va_D A (cw cI a g (vf_upd d 2 p_f) F) := hD
        have hI7 : CI g (vf_upd d 2 p_f) := ⟨hI.1, hI.2.1, hI.2.2.1, hI.2.2.2.1, bb_N1 c2, hI.2.2.2.2.2⟩
        refine lv_aload_n hx hb dX6_backoff_46 rfl (lv_at hl 0 rfl) ?_
        refine va_get (D := D) (ci := 6) (v := .ref ((a 6))) (C := RX6) (T := TX6) (N := 11) hx hb hts hi6 hown hK hP 0 rfl rfl 5 (by decide) (hts (.fieldLink RX6 51 "GuardedCalls" "retry" "LGuardedCalls$Retry;") (by decide +kernel)) (fun _ h9 => h9) rfl dX6_backoff_47 ?_
        refine lv_dload_n hx hb dX6_backoff_50 rfl (lv_at hl 2 rfl) ?_
        refine va_putN (D := D) (ci := 4) (v := .double p_t) (ty := .double) (C := RX4) (T := TX4) (N := 5) hx hb hts hi4 tyX4 tyX4_ok nmX4 hown hK hP hD hS 6 rfl rfl 3 (by decide) (nw_use hKK.2 (w := .fieldLinkNest "GuardedCalls" 141 "GuardedCalls$Retry" "times" "D" "GuardedCalls") (by decide +kernel)) (fun _ h9 => h9) rfl (by decide +kernel) rfl rfl (Nat.le_of_ble_eq_true rfl) dX6_backoff_51 (fun H locs hP hD hS => ?_)
        have hP : va_P D vwCl (cw cI a g (vf_upd (vf_upd d 2 p_f) 3 p_t) F) H := hP
        have hD : va_D A (cw cI a g (vf_upd (vf_upd d 2 p_f) 3 p_t) F) := hD
        have hI8 : CI g (vf_upd (vf_upd d 2 p_f) 3 p_t) := ⟨hI.1, hI.2.1, hI.2.2.1, hI.2.2.2.1, hI7.2.2.2.2.1, bb_N2 c4⟩
        refine lv_aload_n hx hb dX6_backoff_54 rfl (lv_at hl 0 rfl) ?_
        refine va_get (D := D) (ci := 6) (v := .ref ((a 6))) (C := RX6) (T := TX6) (N := 11) hx hb hts hi6 hown hK hP 0 rfl rfl 5 (by decide) (hts (.fieldLink RX6 51 "GuardedCalls" "retry" "LGuardedCalls$Retry;") (by decide +kernel)) (fun _ h9 => h9) rfl dX6_backoff_55 ?_
        refine lv_dload hx hb dX6_backoff_58 (lv_at hl 3 rfl) ?_
        refine va_putN (D := D) (ci := 4) (v := .double p_m) (ty := .double) (C := RX4) (T := TX4) (N := 5) hx hb hts hi4 tyX4 tyX4_ok nmX4 hown hK hP hD hS 6 rfl rfl 4 (by decide) (nw_use hKK.2 (w := .fieldLinkNest "GuardedCalls" 144 "GuardedCalls$Retry" "most" "D" "GuardedCalls") (by decide +kernel)) (fun _ h9 => h9) rfl (by decide +kernel) rfl rfl (Nat.le_of_ble_eq_true rfl) dX6_backoff_60 (fun H locs hP hD hS => ?_)
        have hP : va_P D vwCl (cw cI a g (vf_upd (vf_upd (vf_upd d 2 p_f) 3 p_t) 4 p_m) F) H := hP
        have hD : va_D A (cw cI a g (vf_upd (vf_upd (vf_upd d 2 p_f) 3 p_t) 4 p_m) F) := hD
        refine lv_iconst (v := 1) hx hb dX6_backoff_63 (by decide) ?_
        exact W.zret (v := 1) hx hb hr (rfl) (fun t ht hW => ⟨⟨_, (g, vf_upd (vf_upd (vf_upd d 2 p_f) 3 p_t) 4 p_m, F), rfl, ⟨by simp [sp_back, c2, c4, c6], hI8, rfl, rfl, rfl⟩, by rw [ht]; exact hP, hD⟩, hS.F ht⟩) hS.2.2 dX6_backoff_64
      · refine lv_iconst (v := 0) hx hb dX6_backoff_36 (by decide) ?_
        exact W.zret (v := 0) hx hb hr (rfl) (fun t ht hW => ⟨⟨_, (g, d, F), rfl, ⟨by simp [sp_back, c2, c4, c6], hI, rfl, rfl, rfl⟩, by rw [ht]; exact hP, hD⟩, hS.F ht⟩) hS.2.2 dX6_backoff_37
set_option maxHeartbeats 4000000 in
set_option maxRecDepth 100000 in
theorem s_X6_timer (l : Launch) (D : va_G) (cI : ClassId) (a : Nat → Nat) (sz : Nat) (g : Nat → Int32) (d : Nat → UInt64) (F : Nat → Nat → Int32) (p_k : Int32) (hI : CI g d) : Met l yX6_timer wsX6_timer ({ frames := 1, cells := 0, slots := 0, locals := 22 }) (gP (KC D cI) D (cw cI a g d F) sz [.ref (a 0), .int p_k]) (va_Qi (fun (r : Int32) (u : SS) => (r = sp1 p_k 0 100) ∧ CP g F u) (gB D (wfC cI a) (va_A (cw cI a g d F) sz)) (va_A (cw cI a g d F) sz)) 0 0 (va_A (cw cI a g d F) sz) := by
  refine Met.ofW (cc := cX6_timer) (maxL := 2) (ret := (some .boolean)) (by decide) rfl ?_
  intro p e s m args below meth c s₁ B hml hv
  obtain ⟨rfl, hsz, hP, hD0, hKK⟩ := hv
  have hx := B.exec
  have hb := B.bytes
  have hr := B.returns
  have hts := atoms_spec (ws := wsX6_timer) B.pre
  have hown : s.vm.findClass RX6 = some m.cls := findClass_of_methodNamed B.named
  have hlocks := B.notSynchronized
  subst hsz
  have hK := hKK.1
  have hok := KC_ok D cI
  have hD := hD0.self (sz := s.heap.size)
  generalize hAe : va_A (cw cI a g d F) s.heap.size = A at hD ⊢
  have hi6 : ∀ w ∈ wsX60, w ∈ wsX6_timer := fun w h => List.mem_cons_of_mem _ (List.mem_append_right _ h)
  have hA : ∀ q : Nat, s.heap.size ≤ q → A q := fun q h => by rw [← hAe]; exact Or.inr h
  have hS : va_S A s.heap s.heap [] := va_S.rf
  have hP : va_P D vwCl (cw cI a g d F) s.heap := hP
  have hl := lv_entry ([.ref ((a 0)), .int p_k]) (n := 2) (Nat.le_of_ble_eq_true rfl)
  rw [lg_entry_eq]
  generalize (lg_sl ([.ref ((a 0)), .int p_k]) ++ List.replicate (2 - (lg_sl ([.ref ((a 0)), .int p_k])).length) Slot.unset).toArray = ls at hl ⊢
  have hl : lv_has ls 2 [(0, .ref ((a 0))), (1, .int p_k)] := hl
  refine lv_iload_n hx hb dX6_timer_0 rfl (lv_at hl 1 rfl) ?_
  refine lv_iconst (v := 0) hx hb dX6_timer_1 (by decide) ?_
  refine lv_bipush (v := 100) hx hb dX6_timer_2 (by decide) ?_
  refine gc_si (As := [.int p_k, .int 0, .int 100]) (rest := []) ⟨hx, hb, hml, hown, hts⟩ hP hD hS hA (c_X6_isWithin l _ p_k 0 100) (va_cwS 3 hts gX6_timer_X6_isWithin rfl rfl rfl (by decide +kernel) ⟨Nat.le_of_ble_eq_true rfl, Nat.le_of_ble_eq_true rfl⟩) rfl hl.1 rfl (Nat.le_of_ble_eq_true rfl) dX6_timer_4 ⟨Nat.le_of_ble_eq_true rfl, Nat.le_of_ble_eq_true rfl⟩ (fun r1 H locs hw1 hP hS => ?_)
  subst hw1
  refine lv_if_ne (tgt := 12) hx hb dX6_timer_7 (by decide) (fun c2 => ?_) (fun c2 => ?_)
  · refine lv_aload_n hx hb dX6_timer_12 rfl (lv_at hl 0 rfl) ?_
    refine lv_iload_n hx hb dX6_timer_13 rfl (lv_at hl 1 rfl) ?_
    refine va_put (D := D) (ci := 6) (v := .int p_k) (ty := .int) (C := RX6) (T := TX6) (N := 11) hx hb hts hi6 tyX6 tyX6_ok nmX6 hown hK hP hD hS 0 rfl rfl 10 (by decide) (hts (.fieldLink RX6 69 "GuardedCalls" "span" "I") (by decide +kernel)) (fun _ h9 => h9) rfl (by decide +kernel) rfl rfl (Nat.le_of_ble_eq_true rfl) dX6_timer_14 (fun H locs hP hD hS => ?_)
    have hP : va_P D vwCl (cw cI a (upd g 3 p_k) d F) H := hP
    have hD : va_D A (cw cI a (upd g 3 p_k) d F) := hD
    refine lv_iconst (v := 1) hx hb dX6_timer_17 (by decide) ?_
    exact W.zret (v := 1) hx hb hr (rfl) (fun t ht hW => ⟨⟨_, (upd g 3 p_k, d, F), rfl, ⟨by simp [sp1, c2], hI, rfl, rfl, rfl⟩, by rw [ht]; exact hP, hD⟩, hS.F ht⟩) hS.2.2 dX6_timer_18
  · refine lv_iconst (v := 0) hx hb dX6_timer_10 (by decide) ?_
    exact W.zret (v := 0) hx hb hr (rfl) (fun t ht hW => ⟨⟨_, (g, d, F), rfl, ⟨by simp [sp1, c2], hI, rfl, rfl, rfl⟩, by rw [ht]; exact hP, hD⟩, hS.F ht⟩) hS.2.2 dX6_timer_11
set_option maxHeartbeats 4000000 in
set_option maxRecDepth 100000 in
theorem s_X6_strip (l : Launch) (D : va_G) (cI : ClassId) (a : Nat → Nat) (sz : Nat) (g : Nat → Int32) (d : Nat → UInt64) (F : Nat → Nat → Int32) (hI : CI g d) : Met l yX6_strip wsX6_strip ({ frames := 0, cells := 0, slots := 0, locals := 0 }) (gP (KC D cI) D (cw cI a g d F) sz [.ref (a 0)]) (va_Qi (fun (r : Int32) (u : SS) => r = g 0 ∧ CI u.1 u.2.1 ∧ u.1 0 = 0 ∧ u.1 2 = g 2 ∧ u.2.2 0 = F 0) (gB D (wfC cI a) (va_A (cw cI a g d F) sz)) (va_A (cw cI a g d F) sz)) 0 0 (va_A (cw cI a g d F) sz) := by
  refine Met.ofW (cc := cX6_strip) (maxL := 2) (ret := (some .int)) (by decide) rfl ?_
  intro p e s m args below meth c s₁ B hml hv
  obtain ⟨rfl, hsz, hP, hD0, hKK⟩ := hv
  have hx := B.exec
  have hb := B.bytes
  have hr := B.returns
  have hts := atoms_spec (ws := wsX6_strip) B.pre
  have hown : s.vm.findClass RX6 = some m.cls := findClass_of_methodNamed B.named
  have hlocks := B.notSynchronized
  subst hsz
  have hK := hKK.1
  have hok := KC_ok D cI
  have hD := hD0.self (sz := s.heap.size)
  generalize hAe : va_A (cw cI a g d F) s.heap.size = A at hD ⊢
  have hi6 : ∀ w ∈ wsX60, w ∈ wsX6_strip := fun w h => List.mem_cons_of_mem _ (List.mem_append_right _ h)
  have hA : ∀ q : Nat, s.heap.size ≤ q → A q := fun q h => by rw [← hAe]; exact Or.inr h
  have hS : va_S A s.heap s.heap [] := va_S.rf
  have hP : va_P D vwCl (cw cI a g d F) s.heap := hP
  have hl := lv_entry ([.ref ((a 0))]) (n := 2) (Nat.le_of_ble_eq_true rfl)
  rw [lg_entry_eq]
  generalize (lg_sl ([.ref ((a 0))]) ++ List.replicate (2 - (lg_sl ([.ref ((a 0))])).length) Slot.unset).toArray = ls at hl ⊢
  have hl : lv_has ls 2 [(0, .ref ((a 0)))] := hl
  refine lv_aload_n hx hb dX6_strip_0 rfl (lv_at hl 0 rfl) ?_
  refine va_get (D := D) (ci := 6) (v := .int ((g 0))) (C := RX6) (T := TX6) (N := 11) hx hb hts hi6 hown hK hP 0 rfl rfl 7 (by decide) (hts (.fieldLink RX6 59 "GuardedCalls" "laid" "I") (by decide +kernel)) (fun _ h9 => h9) rfl dX6_strip_1 ?_
  refine lv_istore_n (lv' := [(1, .int ((g 0))), (0, .ref ((a 0)))]) hx hb dX6_strip_4 rfl hl (by decide) rfl (fun ls hl => ?_)
  refine lv_aload_n hx hb dX6_strip_5 rfl (lv_at hl 1 rfl) ?_
  refine lv_iconst (v := 0) hx hb dX6_strip_6 (by decide) ?_
  refine va_put (D := D) (ci := 6) (v := .int 0) (ty := .int) (C := RX6) (T := TX6) (N := 11) hx hb hts hi6 tyX6 tyX6_ok nmX6 hown hK hP hD hS 0 rfl rfl 7 (by decide) (hts (.fieldLink RX6 59 "GuardedCalls" "laid" "I") (by decide +kernel)) (fun _ h9 => h9) rfl (by decide +kernel) rfl rfl (Nat.le_of_ble_eq_true rfl) dX6_strip_7 (fun H locs hP hD hS => ?_)
  have hP : va_P D vwCl (cw cI a (upd g 0 0) d F) H := hP
  have hD : va_D A (cw cI a (upd g 0 0) d F) := hD
  refine lv_iload_n hx hb dX6_strip_10 rfl (lv_at hl 0 rfl) ?_
  exact W.iret (v := ((g 0))) hx hb hr (fun t ht hW => ⟨⟨_, (upd g 0 0, d, F), rfl, ⟨rfl, hI, rfl, rfl, rfl⟩, by rw [ht]; exact hP, hD⟩, hS.F ht⟩) hS.2.2 dX6_strip_11
set_option maxHeartbeats 4000000 in
set_option maxRecDepth 100000 in
theorem s_X6_outcome (l : Launch) (D : va_G) (cI : ClassId) (a : Nat → Nat) (sz : Nat) (g : Nat → Int32) (d : Nat → UInt64) (F : Nat → Nat → Int32) (p_x : Int32) (p_y : Int32) (p_z : Int32) (hI : CI g d) : Met l yX6_outcome wsX6_outcome ({ frames := 1, cells := 0, slots := 0, locals := 24 }) (gP (KC D cI) D (cw cI a g d F) sz [.ref (a 0), .int p_x, .int p_y, .int p_z]) (va_Qi (fun (r : Int32) (u : SS) => (r = 0 ∨ r = 1) ∧ CP g F u) (gB D (wfC cI a) (va_A (cw cI a g d F) sz)) (va_A (cw cI a g d F) sz)) 0 0 (va_A (cw cI a g d F) sz) := by
  refine Met.ofW (cc := cX6_outcome) (maxL := 4) (ret := (some .boolean)) (by decide) rfl ?_
  intro p e s m args below meth c s₁ B hml hv
  obtain ⟨rfl, hsz, hP, hD0, hKK⟩ := hv
  have hx := B.exec
  have hb := B.bytes
  have hr := B.returns
  have hts := atoms_spec (ws := wsX6_outcome) B.pre
  have hown : s.vm.findClass RX6 = some m.cls := findClass_of_methodNamed B.named
  have hlocks := B.notSynchronized
  subst hsz
  have hK := hKK.1
  have hok := KC_ok D cI
  have hD := hD0.self (sz := s.heap.size)
  generalize hAe : va_A (cw cI a g d F) s.heap.size = A at hD ⊢
  have hi6 : ∀ w ∈ wsX60, w ∈ wsX6_outcome := fun w h => List.mem_cons_of_mem _ (List.mem_append_left _ (List.mem_append_right _ h))
  have hi5 : ∀ w ∈ wsX50, w ∈ wsX6_outcome := fun w h => List.mem_cons_of_mem _ (List.mem_append_right _ h)
  have hA : ∀ q : Nat, s.heap.size ≤ q → A q := fun q h => by rw [← hAe]; exact Or.inr h
  have hS : va_S A s.heap s.heap [] := va_S.rf
  have hP : va_P D vwCl (cw cI a g d F) s.heap := hP
  have hl := lv_entry ([.ref ((a 0)), .int p_x, .int p_y, .int p_z]) (n := 4) (Nat.le_of_ble_eq_true rfl)
  rw [lg_entry_eq]
  generalize (lg_sl ([.ref ((a 0)), .int p_x, .int p_y, .int p_z]) ++ List.replicate (4 - (lg_sl ([.ref ((a 0)), .int p_x, .int p_y, .int p_z])).length) Slot.unset).toArray = ls at hl ⊢
  have hl : lv_has ls 4 [(0, .ref ((a 0))), (1, .int p_x), (2, .int p_y), (3, .int p_z)] := hl
  refine lv_iload_n hx hb dX6_outcome_0 rfl (lv_at hl 1 rfl) ?_
  refine lv_iconst (v := 0) hx hb dX6_outcome_1 (by decide) ?_
  refine lv_iconst (v := 2) hx hb dX6_outcome_2 (by decide) ?_
  refine gc_si (As := [.int p_x, .int 0, .int 2]) (rest := []) ⟨hx, hb, hml, hown, hts⟩ hP hD hS hA (c_X6_isWithin l _ p_x 0 2) (va_cwS 3 hts gX6_outcome_X6_isWithin rfl rfl rfl (by decide +kernel) ⟨Nat.le_of_ble_eq_true rfl, Nat.le_of_ble_eq_true rfl⟩) rfl hl.1 rfl (Nat.le_of_ble_eq_true rfl) dX6_outcome_3 ⟨Nat.le_of_ble_eq_true rfl, Nat.le_of_ble_eq_true rfl⟩ (fun r1 H locs hw1 hP hS => ?_)
  subst hw1
  refine lv_if_eq (tgt := 19) hx hb dX6_outcome_6 (by decide) (fun c2 => ?_) (fun c2 => ?_)
  · refine lv_iconst (v := 0) hx hb dX6_outcome_19 (by decide) ?_
    exact W.zret (v := 0) hx hb hr (rfl) (fun t ht hW => ⟨⟨_, (g, d, F), rfl, ⟨Or.inl rfl, hI, rfl, rfl, rfl⟩, by rw [ht]; exact hP, hD⟩, hS.F ht⟩) hS.2.2 dX6_outcome_20
  · refine lv_iload_n hx hb dX6_outcome_9 rfl (lv_at hl 2 rfl) ?_
    refine lv_iconst (v := 0) hx hb dX6_outcome_10 (by decide) ?_
    refine lv_bipush (v := 50) hx hb dX6_outcome_11 (by decide) ?_
    refine gc_si (As := [.int p_y, .int 0, .int 50]) (rest := []) ⟨hx, hb, hml, hown, hts⟩ hP hD hS hA (c_X6_isWithin l _ p_y 0 50) (va_cwS 3 hts gX6_outcome_X6_isWithin rfl rfl rfl (by decide +kernel) ⟨Nat.le_of_ble_eq_true rfl, Nat.le_of_ble_eq_true rfl⟩) rfl hl.1 rfl (Nat.le_of_ble_eq_true rfl) dX6_outcome_13 ⟨Nat.le_of_ble_eq_true rfl, Nat.le_of_ble_eq_true rfl⟩ (fun r3 H locs hw3 hP hS => ?_)
    subst hw3
    refine lv_if_ne (tgt := 21) hx hb dX6_outcome_16 (by decide) (fun c4 => ?_) (fun c4 => ?_)
    · refine lv_aload_n hx hb dX6_outcome_21 rfl (lv_at hl 0 rfl) ?_
      refine va_get (D := D) (ci := 6) (v := .ref ((a 3))) (C := RX6) (T := TX6) (N := 11) hx hb hts hi6 hown hK hP 0 rfl rfl 2 (by decide) (hts (.fieldLink RX6 30 "GuardedCalls" "supplier" "LGuardedCalls$Supplier;") (by decide +kernel)) (fun _ h9 => h9) rfl dX6_outcome_22 ?_
      refine lv_iload_n hx hb dX6_outcome_25 rfl (lv_at hl 1 rfl) ?_
      refine lv_iload_n hx hb dX6_outcome_26 rfl (lv_at hl 2 rfl) ?_
      refine lv_iload_n hx hb dX6_outcome_27 rfl (lv_at hl 3 rfl) ?_
      refine gc_vi (As := [.int p_x, .int p_y, .int p_z]) (rest := []) (w0 := cw cI a g d F) (wc := cw cI a g d F) (wr := []) (wf := wfC cI a) ⟨hx, hb, hml, hown, hts⟩ hKK hok hP hD hS hA [0, 1, 2, 3, 4, 5, 6, 7, 8, 9, 10, 11] [] rfl rfl (by decide) (s_X5_append l D cI a _ g d F p_x p_y p_z hI) (cwV 3 hts gX6_outcome_X5_append rfl rfl rfl (by decide +kernel) ⟨Nat.le_of_ble_eq_true rfl, Nat.le_of_ble_eq_true rfl⟩) (va_recv hK hP (ci := 5) (q0 := 3) rfl rfl) rfl hl.1 rfl (Nat.le_of_ble_eq_true rfl) dX6_outcome_28 ⟨Nat.le_of_ble_eq_true rfl, Nat.le_of_ble_eq_true rfl⟩ (fun r5 u5 H locs hw5 hP hD hS => ?_)
      obtain ⟨g5, d5, F5⟩ := u5
      have hP : va_P D vwCl (cw cI a g5 d5 F5) H := hP
      have hD : va_D A (cw cI a g5 d5 F5) := hD
      exact W.zret (v := r5) hx hb hr (nar_b hw5.1) (fun t ht hW => ⟨⟨_, (g5, d5, F5), rfl, ⟨hw5.1, hw5.2.1, hw5.2.2.1, hw5.2.2.2.1, hw5.2.2.2.2⟩, by rw [ht]; exact hP, hD⟩, hS.F ht⟩) hS.2.2 dX6_outcome_31
    · refine lv_iconst (v := 0) hx hb dX6_outcome_19 (by decide) ?_
      exact W.zret (v := 0) hx hb hr (rfl) (fun t ht hW => ⟨⟨_, (g, d, F), rfl, ⟨Or.inl rfl, hI, rfl, rfl, rfl⟩, by rw [ht]; exact hP, hD⟩, hS.F ht⟩) hS.2.2 dX6_outcome_20
set_option maxHeartbeats 4000000 in
set_option maxRecDepth 100000 in
theorem s_X6_pass (l : Launch) (D : va_G) (cI : ClassId) (a : Nat → Nat) (sz : Nat) (g : Nat → Int32) (d : Nat → UInt64) (F : Nat → Nat → Int32) (p_k : Int32) (hI : CI g d) : Met l yX6_pass wsX6_pass ({ frames := 2, cells := 0, slots := 0, locals := 43 }) (gP (KC D cI) D (cw cI a g d F) sz [.ref (a 0), .int p_k]) (va_Qi (fun (r : Int32) (u : SS) => (r = 0 ∨ r = 1) ∧ CP g F u) (gB D (wfC cI a) (va_A (cw cI a g d F) sz)) (va_A (cw cI a g d F) sz)) 0 0 (va_A (cw cI a g d F) sz) := by
  refine Met.ofW (cc := cX6_pass) (maxL := 2) (ret := (some .boolean)) (by decide) rfl ?_
  intro p e s m args below meth c s₁ B hml hv
  obtain ⟨rfl, hsz, hP, hD0, hKK⟩ := hv
  have hx := B.exec
  have hb := B.bytes
  have hr := B.returns
  have hts := atoms_spec (ws := wsX6_pass) B.pre
  have hown : s.vm.findClass RX6 = some m.cls := findClass_of_methodNamed B.named
  have hlocks := B.notSynchronized
  subst hsz
  have hK := hKK.1
  have hok := KC_ok D cI
  have hD := hD0.self (sz := s.heap.size)
  generalize hAe : va_A (cw cI a g d F) s.heap.size = A at hD ⊢
  have hi6 : ∀ w ∈ wsX60, w ∈ wsX6_pass := fun w h => List.mem_cons_of_mem _ (List.mem_append_left _ (List.mem_append_left _ (List.mem_append_right _ h)))
  have hi1 : ∀ w ∈ wsX10, w ∈ wsX6_pass := fun w h => List.mem_cons_of_mem _ (List.mem_append_left _ (List.mem_append_right _ h))
  have hi2 : ∀ w ∈ wsX20, w ∈ wsX6_pass := fun w h => List.mem_cons_of_mem _ (List.mem_append_right _ h)
  have hA : ∀ q : Nat, s.heap.size ≤ q → A q := fun q h => by rw [← hAe]; exact Or.inr h
  have hS : va_S A s.heap s.heap [] := va_S.rf
  have hP : va_P D vwCl (cw cI a g d F) s.heap := hP
  have hl := lv_entry ([.ref ((a 0)), .int p_k]) (n := 2) (Nat.le_of_ble_eq_true rfl)
  rw [lg_entry_eq]
  generalize (lg_sl ([.ref ((a 0)), .int p_k]) ++ List.replicate (2 - (lg_sl ([.ref ((a 0)), .int p_k])).length) Slot.unset).toArray = ls at hl ⊢
  have hl : lv_has ls 2 [(0, .ref ((a 0))), (1, .int p_k)] := hl
  refine lv_iload_n hx hb dX6_pass_0 rfl (lv_at hl 1 rfl) ?_
  refine lv_iconst (v := 0) hx hb dX6_pass_1 (by decide) ?_
  refine lv_bipush (v := 100) hx hb dX6_pass_2 (by decide) ?_
  refine gc_si (As := [.int p_k, .int 0, .int 100]) (rest := []) ⟨hx, hb, hml, hown, hts⟩ hP hD hS hA (c_X6_isWithin l _ p_k 0 100) (va_cwS 3 hts gX6_pass_X6_isWithin rfl rfl rfl (by decide +kernel) ⟨Nat.le_of_ble_eq_true rfl, Nat.le_of_ble_eq_true rfl⟩) rfl hl.1 rfl (Nat.le_of_ble_eq_true rfl) dX6_pass_4 ⟨Nat.le_of_ble_eq_true rfl, Nat.le_of_ble_eq_true rfl⟩ (fun r1 H locs hw1 hP hS => ?_)
  subst hw1
  refine lv_if_ne (tgt := 12) hx hb dX6_pass_7 (by decide) (fun c2 => ?_) (fun c2 => ?_)
  · refine lv_aload_n hx hb dX6_pass_12 rfl (lv_at hl 0 rfl) ?_
    refine va_get (D := D) (ci := 6) (v := .ref ((a 2))) (C := RX6) (T := TX6) (N := 11) hx hb hts hi6 hown hK hP 0 rfl rfl 1 (by decide) (hts (.fieldLink RX6 21 "GuardedCalls" "clock" "LGuardedCalls$Clock;") (by decide +kernel)) (fun _ h9 => h9) rfl dX6_pass_13 ?_
    refine lv_iload_n hx hb dX6_pass_16 rfl (lv_at hl 1 rfl) ?_
    refine lv_ldc (v := 2147483647) hx hb hown (hts (.constant RX6 154 (2147483647)) (by decide +kernel)) dX6_pass_17 ?_
    refine gc_vi (As := [.int p_k, .int 2147483647]) (rest := []) (w0 := cw cI a g d F) (wc := cw cI a g d F) (wr := []) (wf := wfC cI a) ⟨hx, hb, hml, hown, hts⟩ hKK hok hP hD hS hA [0, 1, 2, 3, 4, 5, 6, 7, 8, 9, 10, 11] [] rfl rfl (by decide) (s_X1_lapse l D cI a _ g d F p_k 2147483647 hI) (cwV 2 hts gX6_pass_X1_lapse rfl rfl rfl (by decide +kernel) ⟨Nat.le_of_ble_eq_true rfl, Nat.le_of_ble_eq_true rfl⟩) (va_recv hK hP (ci := 1) (q0 := 2) rfl rfl) rfl hl.1 rfl (Nat.le_of_ble_eq_true rfl) dX6_pass_19 ⟨Nat.le_of_ble_eq_true rfl, Nat.le_of_ble_eq_true rfl⟩ (fun r3 u3 H locs hw3 hP hD hS => ?_)
    obtain ⟨g3, d3, F3⟩ := u3
    have hP : va_P D vwCl (cw cI a g3 d3 F3) H := hP
    have hD : va_D A (cw cI a g3 d3 F3) := hD
    exact W.zret (v := r3) hx hb hr (nar_b hw3.1) (fun t ht hW => ⟨⟨_, (g3, d3, F3), rfl, ⟨hw3.1, hw3.2.1, hw3.2.2.1, hw3.2.2.2.1, hw3.2.2.2.2⟩, by rw [ht]; exact hP, hD⟩, hS.F ht⟩) hS.2.2 dX6_pass_22
  · refine lv_iconst (v := 0) hx hb dX6_pass_10 (by decide) ?_
    exact W.zret (v := 0) hx hb hr (rfl) (fun t ht hW => ⟨⟨_, (g, d, F), rfl, ⟨Or.inl rfl, hI, rfl, rfl, rfl⟩, by rw [ht]; exact hP, hD⟩, hS.F ht⟩) hS.2.2 dX6_pass_11
set_option maxHeartbeats 4000000 in
set_option maxRecDepth 100000 in
theorem s_X6_failing (l : Launch) (D : va_G) (cI : ClassId) (a : Nat → Nat) (sz : Nat) (g : Nat → Int32) (d : Nat → UInt64) (F : Nat → Nat → Int32) (hI : CI g d) : Met l yX6_failing wsX6_failing ({ frames := 2, cells := 0, slots := 0, locals := 41 }) (gP (KC D cI) D (cw cI a g d F) sz [.ref (a 0)]) (va_Qd (fun (r : UInt64) (u : SS) => u = (g, d, F)) (gB D (wfC cI a) (va_A (cw cI a g d F) sz)) (va_A (cw cI a g d F) sz)) 0 0 (va_A (cw cI a g d F) sz) := by
  refine Met.ofW (cc := cX6_failing) (maxL := 1) (ret := (some .double)) (by decide) rfl ?_
  intro p e s m args below meth c s₁ B hml hv
  obtain ⟨rfl, hsz, hP, hD0, hKK⟩ := hv
  have hx := B.exec
  have hb := B.bytes
  have hr := B.returns
  have hts := atoms_spec (ws := wsX6_failing) B.pre
  have hown : s.vm.findClass RX6 = some m.cls := findClass_of_methodNamed B.named
  have hlocks := B.notSynchronized
  subst hsz
  have hK := hKK.1
  have hok := KC_ok D cI
  have hD := hD0.self (sz := s.heap.size)
  generalize hAe : va_A (cw cI a g d F) s.heap.size = A at hD ⊢
  have hi6 : ∀ w ∈ wsX60, w ∈ wsX6_failing := fun w h => List.mem_cons_of_mem _ (List.mem_append_left _ (List.mem_append_right _ h))
  have hi0 : ∀ w ∈ wsX00, w ∈ wsX6_failing := fun w h => List.mem_cons_of_mem _ (List.mem_append_right _ h)
  have hA : ∀ q : Nat, s.heap.size ≤ q → A q := fun q h => by rw [← hAe]; exact Or.inr h
  have hS : va_S A s.heap s.heap [] := va_S.rf
  have hP : va_P D vwCl (cw cI a g d F) s.heap := hP
  have hl := lv_entry ([.ref ((a 0))]) (n := 1) (Nat.le_of_ble_eq_true rfl)
  rw [lg_entry_eq]
  generalize (lg_sl ([.ref ((a 0))]) ++ List.replicate (1 - (lg_sl ([.ref ((a 0))])).length) Slot.unset).toArray = ls at hl ⊢
  have hl : lv_has ls 1 [(0, .ref ((a 0)))] := hl
  refine lv_aload_n hx hb dX6_failing_0 rfl (lv_at hl 0 rfl) ?_
  refine va_get (D := D) (ci := 6) (v := .ref ((a 4))) (C := RX6) (T := TX6) (N := 11) hx hb hts hi6 hown hK hP 0 rfl rfl 3 (by decide) (hts (.fieldLink RX6 37 "GuardedCalls" "breaker" "LGuardedCalls$Breaker;") (by decide +kernel)) (fun _ h9 => h9) rfl dX6_failing_1 ?_
  refine lv_aload_n hx hb dX6_failing_4 rfl (lv_at hl 0 rfl) ?_
  refine va_get (D := D) (ci := 6) (v := .ref ((a 4))) (C := RX6) (T := TX6) (N := 11) hx hb hts hi6 hown hK hP 0 rfl rfl 3 (by decide) (hts (.fieldLink RX6 37 "GuardedCalls" "breaker" "LGuardedCalls$Breaker;") (by decide +kernel)) (fun _ h9 => h9) rfl dX6_failing_5 ?_
  refine va_getN (D := D) (ci := 0) (v := .int ((g 20))) (C := RX0) (T := TX0) (N := 15) hx hb hts hi0 hown hK hP 4 rfl rfl 13 (by decide) (nw_use hKK.2 (w := .fieldLinkNest "GuardedCalls" 198 "GuardedCalls$Breaker" "failedCalls" "I" "GuardedCalls") (by decide +kernel)) (fun _ h9 => h9) rfl dX6_failing_8 ?_
  refine gc_vd (As := [.int ((g 20))]) (rest := []) (w0 := cw cI a g d F) (wc := cw cI a g d F) (wr := []) (wf := wfC cI a) ⟨hx, hb, hml, hown, hts⟩ hKK hok hP hD hS hA [0, 1, 2, 3, 4, 5, 6, 7, 8, 9, 10, 11] [] rfl rfl (by decide) (s_X0_rate l D cI a _ g d F ((g 20)) hI) (cwV 1 hts gX6_failing_X0_rate rfl rfl rfl (by decide +kernel) ⟨Nat.le_of_ble_eq_true rfl, Nat.le_of_ble_eq_true rfl⟩) (va_recv hK hP (ci := 0) (q0 := 4) rfl rfl) rfl hl.1 rfl (Nat.le_of_ble_eq_true rfl) dX6_failing_11 ⟨Nat.le_of_ble_eq_true rfl, Nat.le_of_ble_eq_true rfl⟩ (fun r1 u1 H locs hw1 hP hD hS => ?_)
  subst hw1
  have hP : va_P D vwCl (cw cI a g d F) H := hP
  have hD : va_D A (cw cI a g d F) := hD
  exact W.dret (v := r1) hx hb hr (fun t ht hW => ⟨⟨_, (g, d, F), rfl, rfl, by rw [ht]; exact hP, hD⟩, hS.F ht⟩) hS.2.2 dX6_failing_14
set_option maxHeartbeats 4000000 in
set_option maxRecDepth 100000 in
theorem s_X6_sluggish (l : Launch) (D : va_G) (cI : ClassId) (a : Nat → Nat) (sz : Nat) (g : Nat → Int32) (d : Nat → UInt64) (F : Nat → Nat → Int32) (hI : CI g d) : Met l yX6_sluggish wsX6_sluggish ({ frames := 2, cells := 0, slots := 0, locals := 41 }) (gP (KC D cI) D (cw cI a g d F) sz [.ref (a 0)]) (va_Qd (fun (r : UInt64) (u : SS) => u = (g, d, F)) (gB D (wfC cI a) (va_A (cw cI a g d F) sz)) (va_A (cw cI a g d F) sz)) 0 0 (va_A (cw cI a g d F) sz) := by
  refine Met.ofW (cc := cX6_sluggish) (maxL := 1) (ret := (some .double)) (by decide) rfl ?_
  intro p e s m args below meth c s₁ B hml hv
  obtain ⟨rfl, hsz, hP, hD0, hKK⟩ := hv
  have hx := B.exec
  have hb := B.bytes
  have hr := B.returns
  have hts := atoms_spec (ws := wsX6_sluggish) B.pre
  have hown : s.vm.findClass RX6 = some m.cls := findClass_of_methodNamed B.named
  have hlocks := B.notSynchronized
  subst hsz
  have hK := hKK.1
  have hok := KC_ok D cI
  have hD := hD0.self (sz := s.heap.size)
  generalize hAe : va_A (cw cI a g d F) s.heap.size = A at hD ⊢
  have hi6 : ∀ w ∈ wsX60, w ∈ wsX6_sluggish := fun w h => List.mem_cons_of_mem _ (List.mem_append_left _ (List.mem_append_right _ h))
  have hi0 : ∀ w ∈ wsX00, w ∈ wsX6_sluggish := fun w h => List.mem_cons_of_mem _ (List.mem_append_right _ h)
  have hA : ∀ q : Nat, s.heap.size ≤ q → A q := fun q h => by rw [← hAe]; exact Or.inr h
  have hS : va_S A s.heap s.heap [] := va_S.rf
  have hP : va_P D vwCl (cw cI a g d F) s.heap := hP
  have hl := lv_entry ([.ref ((a 0))]) (n := 1) (Nat.le_of_ble_eq_true rfl)
  rw [lg_entry_eq]
  generalize (lg_sl ([.ref ((a 0))]) ++ List.replicate (1 - (lg_sl ([.ref ((a 0))])).length) Slot.unset).toArray = ls at hl ⊢
  have hl : lv_has ls 1 [(0, .ref ((a 0)))] := hl
  refine lv_aload_n hx hb dX6_sluggish_0 rfl (lv_at hl 0 rfl) ?_
  refine va_get (D := D) (ci := 6) (v := .ref ((a 4))) (C := RX6) (T := TX6) (N := 11) hx hb hts hi6 hown hK hP 0 rfl rfl 3 (by decide) (hts (.fieldLink RX6 37 "GuardedCalls" "breaker" "LGuardedCalls$Breaker;") (by decide +kernel)) (fun _ h9 => h9) rfl dX6_sluggish_1 ?_
  refine lv_aload_n hx hb dX6_sluggish_4 rfl (lv_at hl 0 rfl) ?_
  refine va_get (D := D) (ci := 6) (v := .ref ((a 4))) (C := RX6) (T := TX6) (N := 11) hx hb hts hi6 hown hK hP 0 rfl rfl 3 (by decide) (hts (.fieldLink RX6 37 "GuardedCalls" "breaker" "LGuardedCalls$Breaker;") (by decide +kernel)) (fun _ h9 => h9) rfl dX6_sluggish_5 ?_
  refine va_getN (D := D) (ci := 0) (v := .int ((g 21))) (C := RX0) (T := TX0) (N := 15) hx hb hts hi0 hown hK hP 4 rfl rfl 14 (by decide) (nw_use hKK.2 (w := .fieldLinkNest "GuardedCalls" 205 "GuardedCalls$Breaker" "slowCalls" "I" "GuardedCalls") (by decide +kernel)) (fun _ h9 => h9) rfl dX6_sluggish_8 ?_
  refine gc_vd (As := [.int ((g 21))]) (rest := []) (w0 := cw cI a g d F) (wc := cw cI a g d F) (wr := []) (wf := wfC cI a) ⟨hx, hb, hml, hown, hts⟩ hKK hok hP hD hS hA [0, 1, 2, 3, 4, 5, 6, 7, 8, 9, 10, 11] [] rfl rfl (by decide) (s_X0_rate l D cI a _ g d F ((g 21)) hI) (cwV 1 hts gX6_sluggish_X0_rate rfl rfl rfl (by decide +kernel) ⟨Nat.le_of_ble_eq_true rfl, Nat.le_of_ble_eq_true rfl⟩) (va_recv hK hP (ci := 0) (q0 := 4) rfl rfl) rfl hl.1 rfl (Nat.le_of_ble_eq_true rfl) dX6_sluggish_11 ⟨Nat.le_of_ble_eq_true rfl, Nat.le_of_ble_eq_true rfl⟩ (fun r1 u1 H locs hw1 hP hD hS => ?_)
  subst hw1
  have hP : va_P D vwCl (cw cI a g d F) H := hP
  have hD : va_D A (cw cI a g d F) := hD
  exact W.dret (v := r1) hx hb hr (fun t ht hW => ⟨⟨_, (g, d, F), rfl, rfl, by rw [ht]; exact hP, hD⟩, hS.F ht⟩) hS.2.2 dX6_sluggish_14
set_option maxHeartbeats 4000000 in
set_option maxRecDepth 100000 in
theorem s_X6_tell (l : Launch) (D : va_G) (cI : ClassId) (a : Nat → Nat) (sz : Nat) (g : Nat → Int32) (d : Nat → UInt64) (F : Nat → Nat → Int32) (p_k : Int32) : Met l yX6_tell wsX6_tell ({ frames := 0, cells := 0, slots := 0, locals := 0 }) (gP (KC D cI) D (cw cI a g d F) sz [.ref (a 0), .int p_k]) (va_Qi (fun (r : Int32) (u : SS) => u = (g, d, F)) (gB D (wfC cI a) (va_A (cw cI a g d F) sz)) (va_A (cw cI a g d F) sz)) 0 0 (va_A (cw cI a g d F) sz) := by
  refine Met.ofW (cc := cX6_tell) (maxL := 2) (ret := (some .int)) (by decide) rfl ?_
  intro p e s m args below meth c s₁ B hml hv
  obtain ⟨rfl, hsz, hP, hD0, hKK⟩ := hv
  have hx := B.exec
  have hb := B.bytes
  have hr := B.returns
  have hts := atoms_spec (ws := wsX6_tell) B.pre
  have hown : s.vm.findClass RX6 = some m.cls := findClass_of_methodNamed B.named
  have hlocks := B.notSynchronized
  subst hsz
  have hK := hKK.1
  have hok := KC_ok D cI
  have hD := hD0.self (sz := s.heap.size)
  generalize hAe : va_A (cw cI a g d F) s.heap.size = A at hD ⊢
  have hi6 : ∀ w ∈ wsX60, w ∈ wsX6_tell := fun w h => List.mem_cons_of_mem _ (List.mem_append_left _ (List.mem_append_left _ (List.mem_append_left _ (List.mem_append_left _ (List.mem_append_right _ h)))))
  have hi0 : ∀ w ∈ wsX00, w ∈ wsX6_tell := fun w h => List.mem_cons_of_mem _ (List.mem_append_left _ (List.mem_append_left _ (List.mem_append_left _ (List.mem_append_right _ h))))
  have hi3 : ∀ w ∈ wsX30, w ∈ wsX6_tell := fun w h => List.mem_cons_of_mem _ (List.mem_append_left _ (List.mem_append_left _ (List.mem_append_right _ h)))
  have hi5 : ∀ w ∈ wsX50, w ∈ wsX6_tell := fun w h => List.mem_cons_of_mem _ (List.mem_append_left _ (List.mem_append_right _ h))
  have hi1 : ∀ w ∈ wsX10, w ∈ wsX6_tell := fun w h => List.mem_cons_of_mem _ (List.mem_append_right _ h)
  have hA : ∀ q : Nat, s.heap.size ≤ q → A q := fun q h => by rw [← hAe]; exact Or.inr h
  have hS : va_S A s.heap s.heap [] := va_S.rf
  have hP : va_P D vwCl (cw cI a g d F) s.heap := hP
  have hl := lv_entry ([.ref ((a 0)), .int p_k]) (n := 2) (Nat.le_of_ble_eq_true rfl)
  rw [lg_entry_eq]
  generalize (lg_sl ([.ref ((a 0)), .int p_k]) ++ List.replicate (2 - (lg_sl ([.ref ((a 0)), .int p_k])).length) Slot.unset).toArray = ls at hl ⊢
  have hl : lv_has ls 2 [(0, .ref ((a 0))), (1, .int p_k)] := hl
  refine lv_iload_n hx hb dX6_tell_0 rfl (lv_at hl 1 rfl) ?_
  rcases sw_7 p_k with h1 | h1 | h1 | h1 | h1 | h1 | h1 | h1 | h1
  · refine lv_tableOut (tgt := 124) hx hb dX6_tell_1 h1 (by decide) ?_
    refine lv_iconst (v := (-1)) hx hb dX6_tell_124 (by decide) ?_
    exact W.iret (v := ((-1))) hx hb hr (fun t ht hW => ⟨⟨_, (g, d, F), rfl, rfl, by rw [ht]; exact hP, hD⟩, hS.F ht⟩) hS.2.2 dX6_tell_125
  · refine lv_tableIn (off := 47) (tgt := 48) hx hb dX6_tell_1 (by rw [h1]; decide) (by rw [h1]; decide) (by rw [h1]; rfl) (by decide) ?_
    refine lv_aload_n hx hb dX6_tell_48 rfl (lv_at hl 0 rfl) ?_
    refine va_get (D := D) (ci := 6) (v := .ref ((a 4))) (C := RX6) (T := TX6) (N := 11) hx hb hts hi6 hown hK hP 0 rfl rfl 3 (by decide) (hts (.fieldLink RX6 37 "GuardedCalls" "breaker" "LGuardedCalls$Breaker;") (by decide +kernel)) (fun _ h9 => h9) rfl dX6_tell_49 ?_
    refine va_getN (D := D) (ci := 0) (v := .int ((g 16))) (C := RX0) (T := TX0) (N := 15) hx hb hts hi0 hown hK hP 4 rfl rfl 9 (by decide) (nw_use hKK.2 (w := .fieldLinkNest "GuardedCalls" 88 "GuardedCalls$Breaker" "state" "I" "GuardedCalls") (by decide +kernel)) (fun _ h9 => h9) rfl dX6_tell_52 ?_
    exact W.iret (v := ((g 16))) hx hb hr (fun t ht hW => ⟨⟨_, (g, d, F), rfl, rfl, by rw [ht]; exact hP, hD⟩, hS.F ht⟩) hS.2.2 dX6_tell_55
  · refine lv_tableIn (off := 55) (tgt := 56) hx hb dX6_tell_1 (by rw [h1]; decide) (by rw [h1]; decide) (by rw [h1]; rfl) (by decide) ?_
    refine lv_aload_n hx hb dX6_tell_56 rfl (lv_at hl 0 rfl) ?_
    refine va_get (D := D) (ci := 6) (v := .ref ((a 4))) (C := RX6) (T := TX6) (N := 11) hx hb hts hi6 hown hK hP 0 rfl rfl 3 (by decide) (hts (.fieldLink RX6 37 "GuardedCalls" "breaker" "LGuardedCalls$Breaker;") (by decide +kernel)) (fun _ h9 => h9) rfl dX6_tell_57 ?_
    refine va_getN (D := D) (ci := 0) (v := .int ((g 19))) (C := RX0) (T := TX0) (N := 15) hx hb hts hi0 hown hK hP 4 rfl rfl 12 (by decide) (nw_use hKK.2 (w := .fieldLinkNest "GuardedCalls" 208 "GuardedCalls$Breaker" "calls" "I" "GuardedCalls") (by decide +kernel)) (fun _ h9 => h9) rfl dX6_tell_60 ?_
    exact W.iret (v := ((g 19))) hx hb hr (fun t ht hW => ⟨⟨_, (g, d, F), rfl, rfl, by rw [ht]; exact hP, hD⟩, hS.F ht⟩) hS.2.2 dX6_tell_63
  · refine lv_tableIn (off := 63) (tgt := 64) hx hb dX6_tell_1 (by rw [h1]; decide) (by rw [h1]; decide) (by rw [h1]; rfl) (by decide) ?_
    refine lv_aload_n hx hb dX6_tell_64 rfl (lv_at hl 0 rfl) ?_
    refine va_get (D := D) (ci := 6) (v := .ref ((a 4))) (C := RX6) (T := TX6) (N := 11) hx hb hts hi6 hown hK hP 0 rfl rfl 3 (by decide) (hts (.fieldLink RX6 37 "GuardedCalls" "breaker" "LGuardedCalls$Breaker;") (by decide +kernel)) (fun _ h9 => h9) rfl dX6_tell_65 ?_
    refine va_getN (D := D) (ci := 0) (v := .int ((g 16))) (C := RX0) (T := TX0) (N := 15) hx hb hts hi0 hown hK hP 4 rfl rfl 9 (by decide) (nw_use hKK.2 (w := .fieldLinkNest "GuardedCalls" 88 "GuardedCalls$Breaker" "state" "I" "GuardedCalls") (by decide +kernel)) (fun _ h9 => h9) rfl dX6_tell_68 ?_
    refine lv_iconst (v := 2) hx hb dX6_tell_71 (by decide) ?_
    refine lv_icmp_ne (tgt := 85) hx hb dX6_tell_72 (by decide) (fun c2 => ?_) (fun c2 => ?_)
    · refine lv_iconst (v := 0) hx hb dX6_tell_85 (by decide) ?_
      exact W.iret (v := 0) hx hb hr (fun t ht hW => ⟨⟨_, (g, d, F), rfl, rfl, by rw [ht]; exact hP, hD⟩, hS.F ht⟩) hS.2.2 dX6_tell_86
    · refine lv_aload_n hx hb dX6_tell_75 rfl (lv_at hl 0 rfl) ?_
      refine va_get (D := D) (ci := 6) (v := .ref ((a 4))) (C := RX6) (T := TX6) (N := 11) hx hb hts hi6 hown hK hP 0 rfl rfl 3 (by decide) (hts (.fieldLink RX6 37 "GuardedCalls" "breaker" "LGuardedCalls$Breaker;") (by decide +kernel)) (fun _ h9 => h9) rfl dX6_tell_76 ?_
      refine va_getN (D := D) (ci := 0) (v := .int ((g 18))) (C := RX0) (T := TX0) (N := 15) hx hb hts hi0 hown hK hP 4 rfl rfl 11 (by decide) (nw_use hKK.2 (w := .fieldLinkNest "GuardedCalls" 211 "GuardedCalls$Breaker" "letIn" "I" "GuardedCalls") (by decide +kernel)) (fun _ h9 => h9) rfl dX6_tell_79 ?_
      refine lv_goto (tgt := 86) hx hb dX6_tell_82 (by decide) ?_
      exact W.iret (v := ((g 18))) hx hb hr (fun t ht hW => ⟨⟨_, (g, d, F), rfl, rfl, by rw [ht]; exact hP, hD⟩, hS.F ht⟩) hS.2.2 dX6_tell_86
  · refine lv_tableIn (off := 86) (tgt := 87) hx hb dX6_tell_1 (by rw [h1]; decide) (by rw [h1]; decide) (by rw [h1]; rfl) (by decide) ?_
    refine lv_aload_n hx hb dX6_tell_87 rfl (lv_at hl 0 rfl) ?_
    refine va_get (D := D) (ci := 6) (v := .int ((g 2))) (C := RX6) (T := TX6) (N := 11) hx hb hts hi6 hown hK hP 0 rfl rfl 9 (by decide) (hts (.fieldLink RX6 66 "GuardedCalls" "used" "I") (by decide +kernel)) (fun _ h9 => h9) rfl dX6_tell_88 ?_
    exact W.iret (v := ((g 2))) hx hb hr (fun t ht hW => ⟨⟨_, (g, d, F), rfl, rfl, by rw [ht]; exact hP, hD⟩, hS.F ht⟩) hS.2.2 dX6_tell_91
  · refine lv_tableIn (off := 91) (tgt := 92) hx hb dX6_tell_1 (by rw [h1]; decide) (by rw [h1]; decide) (by rw [h1]; rfl) (by decide) ?_
    refine lv_aload_n hx hb dX6_tell_92 rfl (lv_at hl 0 rfl) ?_
    refine va_get (D := D) (ci := 6) (v := .ref ((a 5))) (C := RX6) (T := TX6) (N := 11) hx hb hts hi6 hown hK hP 0 rfl rfl 4 (by decide) (hts (.fieldLink RX6 44 "GuardedCalls" "limiter" "LGuardedCalls$Limiter;") (by decide +kernel)) (fun _ h9 => h9) rfl dX6_tell_93 ?_
    refine va_getN (D := D) (ci := 3) (v := .int ((g 26))) (C := RX3) (T := TX3) (N := 7) hx hb hts hi3 hown hK hP 5 rfl rfl 6 (by decide) (nw_use hKK.2 (w := .fieldLinkNest "GuardedCalls" 214 "GuardedCalls$Limiter" "left" "I" "GuardedCalls") (by decide +kernel)) (fun _ h9 => h9) rfl dX6_tell_96 ?_
    exact W.iret (v := ((g 26))) hx hb hr (fun t ht hW => ⟨⟨_, (g, d, F), rfl, rfl, by rw [ht]; exact hP, hD⟩, hS.F ht⟩) hS.2.2 dX6_tell_99
  · refine lv_tableIn (off := 99) (tgt := 100) hx hb dX6_tell_1 (by rw [h1]; decide) (by rw [h1]; decide) (by rw [h1]; rfl) (by decide) ?_
    refine lv_aload_n hx hb dX6_tell_100 rfl (lv_at hl 0 rfl) ?_
    refine va_get (D := D) (ci := 6) (v := .ref ((a 3))) (C := RX6) (T := TX6) (N := 11) hx hb hts hi6 hown hK hP 0 rfl rfl 2 (by decide) (hts (.fieldLink RX6 30 "GuardedCalls" "supplier" "LGuardedCalls$Supplier;") (by decide +kernel)) (fun _ h9 => h9) rfl dX6_tell_101 ?_
    refine va_getN (D := D) (ci := 5) (v := .int ((g 8))) (C := RX5) (T := TX5) (N := 9) hx hb hts hi5 hown hK hP 3 rfl rfl 6 (by decide) (nw_use hKK.2 (w := .fieldLinkNest "GuardedCalls" 217 "GuardedCalls$Supplier" "waiting" "I" "GuardedCalls") (by decide +kernel)) (fun _ h9 => h9) rfl dX6_tell_104 ?_
    exact W.iret (v := ((g 8))) hx hb hr (fun t ht hW => ⟨⟨_, (g, d, F), rfl, rfl, by rw [ht]; exact hP, hD⟩, hS.F ht⟩) hS.2.2 dX6_tell_107
  · refine lv_tableIn (off := 107) (tgt := 108) hx hb dX6_tell_1 (by rw [h1]; decide) (by rw [h1]; decide) (by rw [h1]; rfl) (by decide) ?_
    refine lv_aload_n hx hb dX6_tell_108 rfl (lv_at hl 0 rfl) ?_
    refine va_get (D := D) (ci := 6) (v := .ref ((a 3))) (C := RX6) (T := TX6) (N := 11) hx hb hts hi6 hown hK hP 0 rfl rfl 2 (by decide) (hts (.fieldLink RX6 30 "GuardedCalls" "supplier" "LGuardedCalls$Supplier;") (by decide +kernel)) (fun _ h9 => h9) rfl dX6_tell_109 ?_
    refine va_getN (D := D) (ci := 5) (v := .int ((g 9))) (C := RX5) (T := TX5) (N := 9) hx hb hts hi5 hown hK hP 3 rfl rfl 7 (by decide) (nw_use hKK.2 (w := .fieldLinkNest "GuardedCalls" 220 "GuardedCalls$Supplier" "calls" "I" "GuardedCalls") (by decide +kernel)) (fun _ h9 => h9) rfl dX6_tell_112 ?_
    exact W.iret (v := ((g 9))) hx hb hr (fun t ht hW => ⟨⟨_, (g, d, F), rfl, rfl, by rw [ht]; exact hP, hD⟩, hS.F ht⟩) hS.2.2 dX6_tell_115
  · refine lv_tableIn (off := 115) (tgt := 116) hx hb dX6_tell_1 (by rw [h1]; decide) (by rw [h1]; decide) (by rw [h1]; rfl) (by decide) ?_
    refine lv_aload_n hx hb dX6_tell_116 rfl (lv_at hl 0 rfl) ?_
    refine va_get (D := D) (ci := 6) (v := .ref ((a 2))) (C := RX6) (T := TX6) (N := 11) hx hb hts hi6 hown hK hP 0 rfl rfl 1 (by decide) (hts (.fieldLink RX6 21 "GuardedCalls" "clock" "LGuardedCalls$Clock;") (by decide +kernel)) (fun _ h9 => h9) rfl dX6_tell_117 ?_
    refine va_getN (D := D) (ci := 1) (v := .int ((g 6))) (C := RX1) (T := TX1) (N := 2) hx hb hts hi1 hown hK hP 2 rfl rfl 1 (by decide) (nw_use hKK.2 (w := .fieldLinkNest "GuardedCalls" 221 "GuardedCalls$Clock" "now" "I" "GuardedCalls") (by decide +kernel)) (fun _ h9 => h9) rfl dX6_tell_120 ?_
    exact W.iret (v := ((g 6))) hx hb hr (fun t ht hW => ⟨⟨_, (g, d, F), rfl, rfl, by rw [ht]; exact hP, hD⟩, hS.F ht⟩) hS.2.2 dX6_tell_123
set_option maxHeartbeats 4000000 in
set_option maxRecDepth 100000 in
theorem s_X6_event (l : Launch) (D : va_G) (cI : ClassId) (a : Nat → Nat) (sz : Nat) (g : Nat → Int32) (d : Nat → UInt64) (F : Nat → Nat → Int32) (p_k : Int32) (hI : CI g d) : Met l yX6_event wsX6_event ({ frames := 1, cells := 0, slots := 0, locals := 21 }) (gP (KC D cI) D (cw cI a g d F) sz [.ref (a 0), .int p_k]) (va_Qi (fun (r : Int32) (u : SS) => u = (g, d, F)) (gB D (wfC cI a) (va_A (cw cI a g d F) sz)) (va_A (cw cI a g d F) sz)) 0 0 (va_A (cw cI a g d F) sz) := by
  refine Met.ofW (cc := cX6_event) (maxL := 2) (ret := (some .int)) (by decide) rfl ?_
  intro p e s m args below meth c s₁ B hml hv
  obtain ⟨rfl, hsz, hP, hD0, hKK⟩ := hv
  have hx := B.exec
  have hb := B.bytes
  have hr := B.returns
  have hts := atoms_spec (ws := wsX6_event) B.pre
  have hown : s.vm.findClass RX6 = some m.cls := findClass_of_methodNamed B.named
  have hlocks := B.notSynchronized
  subst hsz
  have hK := hKK.1
  have hok := KC_ok D cI
  have hD := hD0.self (sz := s.heap.size)
  generalize hAe : va_A (cw cI a g d F) s.heap.size = A at hD ⊢
  have hi6 : ∀ w ∈ wsX60, w ∈ wsX6_event := fun w h => List.mem_cons_of_mem _ (List.mem_append_left _ (List.mem_append_right _ h))
  have hi2 : ∀ w ∈ wsX20, w ∈ wsX6_event := fun w h => List.mem_cons_of_mem _ (List.mem_append_right _ h)
  have hA : ∀ q : Nat, s.heap.size ≤ q → A q := fun q h => by rw [← hAe]; exact Or.inr h
  have hS : va_S A s.heap s.heap [] := va_S.rf
  have hP : va_P D vwCl (cw cI a g d F) s.heap := hP
  have hl := lv_entry ([.ref ((a 0)), .int p_k]) (n := 2) (Nat.le_of_ble_eq_true rfl)
  rw [lg_entry_eq]
  generalize (lg_sl ([.ref ((a 0)), .int p_k]) ++ List.replicate (2 - (lg_sl ([.ref ((a 0)), .int p_k])).length) Slot.unset).toArray = ls at hl ⊢
  have hl : lv_has ls 2 [(0, .ref ((a 0))), (1, .int p_k)] := hl
  refine lv_aload_n hx hb dX6_event_0 rfl (lv_at hl 0 rfl) ?_
  refine va_get (D := D) (ci := 6) (v := .ref ((a 1))) (C := RX6) (T := TX6) (N := 11) hx hb hts hi6 hown hK hP 0 rfl rfl 0 (by decide) (hts (.fieldLink RX6 10 "GuardedCalls" "events" "LGuardedCalls$Events;") (by decide +kernel)) (fun _ h9 => h9) rfl dX6_event_1 ?_
  refine lv_iload_n hx hb dX6_event_4 rfl (lv_at hl 1 rfl) ?_
  refine gc_vi (As := [.int p_k]) (rest := []) (w0 := cw cI a g d F) (wc := cw cI a g d F) (wr := []) (wf := wfC cI a) ⟨hx, hb, hml, hown, hts⟩ hKK hok hP hD hS hA [0, 1, 2, 3, 4, 5, 6, 7, 8, 9, 10, 11] [] rfl rfl (by decide) (s_X2_latest l D cI a _ g d F p_k hI) (cwV 1 hts gX6_event_X2_latest rfl rfl rfl (by decide +kernel) ⟨Nat.le_of_ble_eq_true rfl, Nat.le_of_ble_eq_true rfl⟩) (va_recv hK hP (ci := 2) (q0 := 1) rfl rfl) rfl hl.1 rfl (Nat.le_of_ble_eq_true rfl) dX6_event_5 ⟨Nat.le_of_ble_eq_true rfl, Nat.le_of_ble_eq_true rfl⟩ (fun r1 u1 H locs hw1 hP hD hS => ?_)
  subst hw1
  have hP : va_P D vwCl (cw cI a g d F) H := hP
  have hD : va_D A (cw cI a g d F) := hD
  exact W.iret (v := r1) hx hb hr (fun t ht hW => ⟨⟨_, (g, d, F), rfl, rfl, by rw [ht]; exact hP, hD⟩, hS.F ht⟩) hS.2.2 dX6_event_8
