set_option maxHeartbeats 4000000 in
set_option maxRecDepth 100000 in
theorem c_J6_bitCount_0f7a4 (l : Launch) (sz : Nat) (p_v : Int32) : Met l yJ6_bitCount_0f7a4 wsJ6_bitCount_0f7a4 ({ frames := 0, cells := 0, slots := 0, locals := 0 }) (va_Pc [.int p_v] (fun U => U.heap.size = sz)) (va_Qi (fun (r : Int32) (_ : Unit) => True) (fun _ _ => True) (va_A [] sz)) 0 0 (va_A [] sz) := by
  refine Met.ofW (cc := cJ6_bitCount_0f7a4) (maxL := 1) (ret := (some .int)) (by decide) rfl ?_
  intro p e s m args below meth c s₁ B hml hv
  obtain ⟨rfl, hsz⟩ := hv
  have hx := B.exec
  have hb := B.bytes
  have hr := B.returns
  have hts := atoms_spec (ws := wsJ6_bitCount_0f7a4) B.pre
  have hown : s.vm.findClass RJ6 = some m.cls := findClass_of_methodNamed B.named
  have hlocks := B.notSynchronized
  subst hsz
  generalize hAe : va_A [] s.heap.size = A
  have hA : ∀ q : Nat, s.heap.size ≤ q → A q := fun q h => by rw [← hAe]; exact Or.inr h
  have hS : va_S A s.heap s.heap [] := va_S.rf
  have hl := lv_entry ([.int p_v]) (n := 1) (Nat.le_of_ble_eq_true rfl)
  rw [lg_entry_eq]
  generalize (lg_sl ([.int p_v]) ++ List.replicate (1 - (lg_sl ([.int p_v])).length) Slot.unset).toArray = ls at hl ⊢
  have hl : lv_has ls 1 [(0, .int p_v)] := hl
  refine lv_iload_n hx hb dJ6_bitCount_0f7a4_0 rfl (lv_at hl 0 rfl) ?_
  refine lv_iload_n hx hb dJ6_bitCount_0f7a4_1 rfl (lv_at hl 0 rfl) ?_
  refine lv_iconst (v := 1) hx hb dJ6_bitCount_0f7a4_2 (by decide) ?_
  refine lv_iushr hx hb dJ6_bitCount_0f7a4_3 rfl ?_
  refine lv_topi (fun x1 e1 => ?_)
  refine lv_ldcw (v := 1431655765) hx hb hown (hts (.constant RJ6 265 (1431655765)) (by decide +kernel)) dJ6_bitCount_0f7a4_4 ?_
  refine lv_iand hx hb dJ6_bitCount_0f7a4_7 ?_
  refine lv_topi (fun x2 e2 => ?_)
  refine lv_isub hx hb dJ6_bitCount_0f7a4_8 ?_
  refine lv_topi (fun x3 e3 => ?_)
  refine lv_istore_n (lv' := [(0, .int x3)]) hx hb dJ6_bitCount_0f7a4_9 rfl hl (by decide) rfl (fun ls hl => ?_)
  refine lv_iload_n hx hb dJ6_bitCount_0f7a4_10 rfl (lv_at hl 0 rfl) ?_
  refine lv_ldcw (v := 858993459) hx hb hown (hts (.constant RJ6 266 (858993459)) (by decide +kernel)) dJ6_bitCount_0f7a4_11 ?_
  refine lv_iand hx hb dJ6_bitCount_0f7a4_14 ?_
  refine lv_topi (fun x4 e4 => ?_)
  refine lv_iload_n hx hb dJ6_bitCount_0f7a4_15 rfl (lv_at hl 0 rfl) ?_
  refine lv_iconst (v := 2) hx hb dJ6_bitCount_0f7a4_16 (by decide) ?_
  refine lv_iushr hx hb dJ6_bitCount_0f7a4_17 rfl ?_
  refine lv_topi (fun x5 e5 => ?_)
  refine lv_ldcw (v := 858993459) hx hb hown (hts (.constant RJ6 266 (858993459)) (by decide +kernel)) dJ6_bitCount_0f7a4_18 ?_
  refine lv_iand hx hb dJ6_bitCount_0f7a4_21 ?_
  refine lv_topi (fun x6 e6 => ?_)
  refine lv_iadd hx hb dJ6_bitCount_0f7a4_22 ?_
  refine lv_topi (fun x7 e7 => ?_)
  refine lv_istore_n (lv' := [(0, .int x7)]) hx hb dJ6_bitCount_0f7a4_23 rfl hl (by decide) rfl (fun ls hl => ?_)
  refine lv_iload_n hx hb dJ6_bitCount_0f7a4_24 rfl (lv_at hl 0 rfl) ?_
  refine lv_iload_n hx hb dJ6_bitCount_0f7a4_25 rfl (lv_at hl 0 rfl) ?_
  refine lv_iconst (v := 4) hx hb dJ6_bitCount_0f7a4_26 (by decide) ?_
  refine lv_iushr hx hb dJ6_bitCount_0f7a4_27 rfl ?_
  refine lv_topi (fun x8 e8 => ?_)
  refine lv_iadd hx hb dJ6_bitCount_0f7a4_28 ?_
  refine lv_topi (fun x9 e9 => ?_)
  refine lv_ldcw (v := 252645135) hx hb hown (hts (.constant RJ6 267 (252645135)) (by decide +kernel)) dJ6_bitCount_0f7a4_29 ?_
  refine lv_iand hx hb dJ6_bitCount_0f7a4_32 ?_
  refine lv_topi (fun x10 e10 => ?_)
  refine lv_istore_n (lv' := [(0, .int x10)]) hx hb dJ6_bitCount_0f7a4_33 rfl hl (by decide) rfl (fun ls hl => ?_)
  refine lv_iload_n hx hb dJ6_bitCount_0f7a4_34 rfl (lv_at hl 0 rfl) ?_
  refine lv_iload_n hx hb dJ6_bitCount_0f7a4_35 rfl (lv_at hl 0 rfl) ?_
  refine lv_bipush (v := 8) hx hb dJ6_bitCount_0f7a4_36 (by decide) ?_
  refine lv_iushr hx hb dJ6_bitCount_0f7a4_38 rfl ?_
  refine lv_topi (fun x11 e11 => ?_)
  refine lv_iadd hx hb dJ6_bitCount_0f7a4_39 ?_
  refine lv_topi (fun x12 e12 => ?_)
  refine lv_istore_n (lv' := [(0, .int x12)]) hx hb dJ6_bitCount_0f7a4_40 rfl hl (by decide) rfl (fun ls hl => ?_)
  refine lv_iload_n hx hb dJ6_bitCount_0f7a4_41 rfl (lv_at hl 0 rfl) ?_
  refine lv_iload_n hx hb dJ6_bitCount_0f7a4_42 rfl (lv_at hl 0 rfl) ?_
  refine lv_bipush (v := 16) hx hb dJ6_bitCount_0f7a4_43 (by decide) ?_
  refine lv_iushr hx hb dJ6_bitCount_0f7a4_45 rfl ?_
  refine lv_topi (fun x13 e13 => ?_)
  refine lv_iadd hx hb dJ6_bitCount_0f7a4_46 ?_
  refine lv_topi (fun x14 e14 => ?_)
  refine lv_istore_n (lv' := [(0, .int x14)]) hx hb dJ6_bitCount_0f7a4_47 rfl hl (by decide) rfl (fun ls hl => ?_)
  refine lv_iload_n hx hb dJ6_bitCount_0f7a4_48 rfl (lv_at hl 0 rfl) ?_
  refine lv_bipush (v := 63) hx hb dJ6_bitCount_0f7a4_49 (by decide) ?_
  refine lv_iand hx hb dJ6_bitCount_0f7a4_51 ?_
  refine lv_topi (fun x15 e15 => ?_)
  exact W.zret (v := x15) hx hb hr (rfl) (fun t ht hW => ⟨⟨_, (), rfl, trivial, trivial⟩, hS.F ht⟩) hS.2.2 dJ6_bitCount_0f7a4_52
set_option maxHeartbeats 4000000 in
set_option maxRecDepth 100000 in
theorem s_X2_add (l : Launch) (D : va_G) (cI : ClassId) (a : Nat → Nat) (sz : Nat) (g : Nat → Int32) (d : Nat → UInt64) (F : Nat → Nat → Int32) (p_ev : Int32) {bd : Nat} (hI : CI bd g d F) : Met l yX2_add wsX2_add ({ frames := 0, cells := 0, slots := 0, locals := 0 }) (gP (KC D cI) D (cw cI a g d F) sz [.ref (a 1), .int p_ev]) (va_Qv (fun (u : SS) => (u.1 6 = g 6) ∧ CP (bd) g F u) (gB D (wfC cI a) (va_A (cw cI a g d F) sz)) (va_A (cw cI a g d F) sz)) 0 0 (va_A (cw cI a g d F) sz) := by
  refine Met.ofW (cc := cX2_add) (maxL := 2) (ret := none) (by decide) rfl ?_
  intro p e s m args below meth c s₁ B hml hv
  obtain ⟨rfl, hsz, hP, hD0, hKK⟩ := hv
  have hx := B.exec
  have hb := B.bytes
  have hr := B.returns
  have hts := atoms_spec (ws := wsX2_add) B.pre
  have hown : s.vm.findClass RX2 = some m.cls := findClass_of_methodNamed B.named
  have hlocks := B.notSynchronized
  subst hsz
  have hK := hKK.1
  have hok := KC_ok D cI
  have hD := hD0.self (sz := s.heap.size)
  generalize hAe : va_A (cw cI a g d F) s.heap.size = A at hD ⊢
  have hi2 : ∀ w ∈ wsX20, w ∈ wsX2_add := fun w h => List.mem_cons_of_mem _ (List.mem_append_right _ h)
  have hA : ∀ q : Nat, s.heap.size ≤ q → A q := fun q h => by rw [← hAe]; exact Or.inr h
  have hS : va_S A s.heap s.heap [] := va_S.rf
  have hP : va_P D vwCl (cw cI a g d F) s.heap := hP
  have hl := lv_entry ([.ref ((a 1)), .int p_ev]) (n := 2) (Nat.le_of_ble_eq_true rfl)
  rw [lg_entry_eq]
  generalize (lg_sl ([.ref ((a 1)), .int p_ev]) ++ List.replicate (2 - (lg_sl ([.ref ((a 1)), .int p_ev])).length) Slot.unset).toArray = ls at hl ⊢
  have hl : lv_has ls 2 [(0, .ref ((a 1))), (1, .int p_ev)] := hl
  refine lv_aload_n hx hb dX2_add_0 rfl (lv_at hl 0 rfl) ?_
  refine va_get (D := D) (ci := 2) (v := .ref ((a 8))) (C := RX2) (T := TX2) (N := 3) hx hb hts hi2 hown hK hP 1 rfl rfl 0 (by decide) (hts (.fieldLink RX2 9 "GuardedCalls$Events" "ring" "[I") (by decide +kernel)) (fun _ h9 => h9) rfl dX2_add_1 ?_
  refine lv_aload_n hx hb dX2_add_4 rfl (lv_at hl 0 rfl) ?_
  refine va_get (D := D) (ci := 2) (v := .int ((g 4))) (C := RX2) (T := TX2) (N := 3) hx hb hts hi2 hown hK hP 1 rfl rfl 1 (by decide) (hts (.fieldLink RX2 13 "GuardedCalls$Events" "next" "I") (by decide +kernel)) (fun _ h9 => h9) rfl dX2_add_5 ?_
  refine lv_iload_n hx hb dX2_add_8 rfl (lv_at hl 1 rfl) ?_
  refine va_iast (D := D) hx hb hK hP hD hS 8 0 (f := (F 1)) (n := 8) rfl rfl (hI.1.1) dX2_add_9 (fun H locs hP hD hS => ?_)
  have hP : va_P D vwCl (cw cI a g d (vf_upd F 1 (upd (F 1) ((g 4)).toNatClampNeg p_ev))) H := hP
  have hD : va_D A (cw cI a g d (vf_upd F 1 (upd (F 1) ((g 4)).toNatClampNeg p_ev))) := hD
  refine lv_aload_n hx hb dX2_add_10 rfl (lv_at hl 0 rfl) ?_
  refine lv_aload_n hx hb dX2_add_11 rfl (lv_at hl 0 rfl) ?_
  refine va_get (D := D) (ci := 2) (v := .int ((g 4))) (C := RX2) (T := TX2) (N := 3) hx hb hts hi2 hown hK hP 1 rfl rfl 1 (by decide) (hts (.fieldLink RX2 13 "GuardedCalls$Events" "next" "I") (by decide +kernel)) (fun _ h9 => h9) rfl dX2_add_12 ?_
  refine lv_iconst (v := 1) hx hb dX2_add_15 (by decide) ?_
  refine lv_iadd hx hb dX2_add_16 ?_
  refine lv_topi (fun x1 e1 => ?_)
  refine lv_bipush (v := 8) hx hb dX2_add_17 (by decide) ?_
  refine lv_irem hx hb dX2_add_19 (by decide) ?_
  refine lv_topi (fun x2 e2 => ?_)
  refine va_put (D := D) (ci := 2) (v := .int x2) (ty := .int) (C := RX2) (T := TX2) (N := 3) hx hb hts hi2 tyX2 tyX2_ok nmX2 hown hK hP hD hS 1 rfl rfl 1 (by decide) (hts (.fieldLink RX2 13 "GuardedCalls$Events" "next" "I") (by decide +kernel)) (fun _ h9 => h9) rfl (by decide +kernel) rfl rfl (Nat.le_of_ble_eq_true rfl) dX2_add_20 (fun H locs hP hD hS => ?_)
  have hP : va_P D vwCl (cw cI a (upd g 4 x2) d (vf_upd F 1 (upd (F 1) ((g 4)).toNatClampNeg p_ev))) H := hP
  have hD : va_D A (cw cI a (upd g 4 x2) d (vf_upd F 1 (upd (F 1) ((g 4)).toNatClampNeg p_ev))) := hD
  have hI3 : CI bd (upd g 4 x2) d (vf_upd F 1 (upd (F 1) ((g 4)).toNatClampNeg p_ev)) := ⟨⟨by show vp_in x2 8; rw [e2, e1]; exact ring8 hI.1.1, hI.1.2.1, hI.1.2.2.1, hI.1.2.2.2.1, hI.1.2.2.2.2.1, hI.1.2.2.2.2.2⟩, hI.2.1, hI.2.2.1, hI.2.2.2.1, hI.2.2.2.2.1, hI.2.2.2.2.2.1, hI.2.2.2.2.2.2.1, hI.2.2.2.2.2.2.2.1, hI.2.2.2.2.2.2.2.2.1, hI.2.2.2.2.2.2.2.2.2⟩
  refine lv_aload_n hx hb dX2_add_23 rfl (lv_at hl 0 rfl) ?_
  refine va_get (D := D) (ci := 2) (v := .int ((g 5))) (C := RX2) (T := TX2) (N := 3) hx hb hts hi2 hown hK hP 1 rfl rfl 2 (by decide) (hts (.fieldLink RX2 17 "GuardedCalls$Events" "kept" "I") (by decide +kernel)) (fun _ h9 => h9) rfl dX2_add_24 ?_
  refine lv_bipush (v := 8) hx hb dX2_add_27 (by decide) ?_
  refine lv_icmp_ge (tgt := 42) hx hb dX2_add_29 (by decide) (fun c4 => ?_) (fun c4 => ?_)
  · exact W.vret hx hb hr (fun t ht hW => ⟨⟨(upd g 4 x2, d, vf_upd F 1 (upd (F 1) ((g 4)).toNatClampNeg p_ev)), rfl, ⟨rfl, hI3, rfl, rfl, rfl⟩, by rw [ht]; exact hP, hD⟩, hS.F ht⟩) hS.2.2 dX2_add_42
  · refine lv_aload_n hx hb dX2_add_32 rfl (lv_at hl 0 rfl) ?_
    refine lv_dup hx hb dX2_add_33 rfl ?_
    refine va_get (D := D) (ci := 2) (v := .int ((g 5))) (C := RX2) (T := TX2) (N := 3) hx hb hts hi2 hown hK hP 1 rfl rfl 2 (by decide) (hts (.fieldLink RX2 17 "GuardedCalls$Events" "kept" "I") (by decide +kernel)) (fun _ h9 => h9) rfl dX2_add_34 ?_
    refine lv_iconst (v := 1) hx hb dX2_add_37 (by decide) ?_
    refine lv_iadd hx hb dX2_add_38 ?_
    refine lv_topi (fun x5 e5 => ?_)
    refine va_put (D := D) (ci := 2) (v := .int x5) (ty := .int) (C := RX2) (T := TX2) (N := 3) hx hb hts hi2 tyX2 tyX2_ok nmX2 hown hK hP hD hS 1 rfl rfl 2 (by decide) (hts (.fieldLink RX2 17 "GuardedCalls$Events" "kept" "I") (by decide +kernel)) (fun _ h9 => h9) rfl (by decide +kernel) rfl rfl (Nat.le_of_ble_eq_true rfl) dX2_add_39 (fun H locs hP hD hS => ?_)
    have hP : va_P D vwCl (cw cI a (upd (upd g 4 x2) 5 x5) d (vf_upd F 1 (upd (F 1) ((g 4)).toNatClampNeg p_ev))) H := hP
    have hD : va_D A (cw cI a (upd (upd g 4 x2) 5 x5) d (vf_upd F 1 (upd (F 1) ((g 4)).toNatClampNeg p_ev))) := hD
    have hI6 : CI bd (upd (upd g 4 x2) 5 x5) d (vf_upd F 1 (upd (F 1) ((g 4)).toNatClampNeg p_ev)) := ⟨⟨hI3.1.1, by show 0 ≤ (x5).toInt ∧ (x5).toInt ≤ 8; rw [e5]; exact kept_up hI.1.2.1 c4, hI3.1.2.2.1, hI3.1.2.2.2.1, hI3.1.2.2.2.2.1, hI3.1.2.2.2.2.2⟩, hI3.2.1, hI3.2.2.1, hI3.2.2.2.1, hI3.2.2.2.2.1, hI3.2.2.2.2.2.1, hI3.2.2.2.2.2.2.1, hI3.2.2.2.2.2.2.2.1, hI3.2.2.2.2.2.2.2.2.1, hI3.2.2.2.2.2.2.2.2.2⟩
    exact W.vret hx hb hr (fun t ht hW => ⟨⟨(upd (upd g 4 x2) 5 x5, d, vf_upd F 1 (upd (F 1) ((g 4)).toNatClampNeg p_ev)), rfl, ⟨rfl, hI6, rfl, rfl, rfl⟩, by rw [ht]; exact hP, hD⟩, hS.F ht⟩) hS.2.2 dX2_add_42
set_option maxHeartbeats 4000000 in
set_option maxRecDepth 100000 in
theorem s_X2_latest (l : Launch) (D : va_G) (cI : ClassId) (a : Nat → Nat) (sz : Nat) (g : Nat → Int32) (d : Nat → UInt64) (F : Nat → Nat → Int32) (p_k : Int32) {bd : Nat} (hI : CI bd g d F) : Met l yX2_latest wsX2_latest ({ frames := 0, cells := 0, slots := 0, locals := 0 }) (gP (KC D cI) D (cw cI a g d F) sz [.ref (a 1), .int p_k]) (va_Qi (fun (r : Int32) (u : SS) => u = (g, d, F)) (gB D (wfC cI a) (va_A (cw cI a g d F) sz)) (va_A (cw cI a g d F) sz)) 0 0 (va_A (cw cI a g d F) sz) := by
  refine Met.ofW (cc := cX2_latest) (maxL := 2) (ret := (some .int)) (by decide) rfl ?_
  intro p e s m args below meth c s₁ B hml hv
  obtain ⟨rfl, hsz, hP, hD0, hKK⟩ := hv
  have hx := B.exec
  have hb := B.bytes
  have hr := B.returns
  have hts := atoms_spec (ws := wsX2_latest) B.pre
  have hown : s.vm.findClass RX2 = some m.cls := findClass_of_methodNamed B.named
  have hlocks := B.notSynchronized
  subst hsz
  have hK := hKK.1
  have hok := KC_ok D cI
  have hD := hD0.self (sz := s.heap.size)
  generalize hAe : va_A (cw cI a g d F) s.heap.size = A at hD ⊢
  have hi2 : ∀ w ∈ wsX20, w ∈ wsX2_latest := fun w h => List.mem_cons_of_mem _ (List.mem_append_right _ h)
  have hA : ∀ q : Nat, s.heap.size ≤ q → A q := fun q h => by rw [← hAe]; exact Or.inr h
  have hS : va_S A s.heap s.heap [] := va_S.rf
  have hP : va_P D vwCl (cw cI a g d F) s.heap := hP
  have hl := lv_entry ([.ref ((a 1)), .int p_k]) (n := 2) (Nat.le_of_ble_eq_true rfl)
  rw [lg_entry_eq]
  generalize (lg_sl ([.ref ((a 1)), .int p_k]) ++ List.replicate (2 - (lg_sl ([.ref ((a 1)), .int p_k])).length) Slot.unset).toArray = ls at hl ⊢
  have hl : lv_has ls 2 [(0, .ref ((a 1))), (1, .int p_k)] := hl
  refine lv_iload_n hx hb dX2_latest_0 rfl (lv_at hl 1 rfl) ?_
  refine lv_if_lt (tgt := 12) hx hb dX2_latest_1 (by decide) (fun c1 => ?_) (fun c1 => ?_)
  · refine lv_iconst (v := (-1)) hx hb dX2_latest_12 (by decide) ?_
    exact W.iret (v := ((-1))) hx hb hr (fun t ht hW => ⟨⟨_, (g, d, F), rfl, rfl, by rw [ht]; exact hP, hD⟩, hS.F ht⟩) hS.2.2 dX2_latest_13
  · refine lv_iload_n hx hb dX2_latest_4 rfl (lv_at hl 1 rfl) ?_
    refine lv_aload_n hx hb dX2_latest_5 rfl (lv_at hl 0 rfl) ?_
    refine va_get (D := D) (ci := 2) (v := .int ((g 5))) (C := RX2) (T := TX2) (N := 3) hx hb hts hi2 hown hK hP 1 rfl rfl 2 (by decide) (hts (.fieldLink RX2 17 "GuardedCalls$Events" "kept" "I") (by decide +kernel)) (fun _ h9 => h9) rfl dX2_latest_6 ?_
    refine lv_icmp_lt (tgt := 14) hx hb dX2_latest_9 (by decide) (fun c2 => ?_) (fun c2 => ?_)
    · refine lv_aload_n hx hb dX2_latest_14 rfl (lv_at hl 0 rfl) ?_
      refine va_get (D := D) (ci := 2) (v := .ref ((a 8))) (C := RX2) (T := TX2) (N := 3) hx hb hts hi2 hown hK hP 1 rfl rfl 0 (by decide) (hts (.fieldLink RX2 9 "GuardedCalls$Events" "ring" "[I") (by decide +kernel)) (fun _ h9 => h9) rfl dX2_latest_15 ?_
      refine lv_aload_n hx hb dX2_latest_18 rfl (lv_at hl 0 rfl) ?_
      refine va_get (D := D) (ci := 2) (v := .int ((g 4))) (C := RX2) (T := TX2) (N := 3) hx hb hts hi2 hown hK hP 1 rfl rfl 1 (by decide) (hts (.fieldLink RX2 13 "GuardedCalls$Events" "next" "I") (by decide +kernel)) (fun _ h9 => h9) rfl dX2_latest_19 ?_
      refine lv_bipush (v := 8) hx hb dX2_latest_22 (by decide) ?_
      refine lv_iadd hx hb dX2_latest_24 ?_
      refine lv_topi (fun x3 e3 => ?_)
      refine lv_iconst (v := 1) hx hb dX2_latest_25 (by decide) ?_
      refine lv_isub hx hb dX2_latest_26 ?_
      refine lv_topi (fun x4 e4 => ?_)
      refine lv_iload_n hx hb dX2_latest_27 rfl (lv_at hl 1 rfl) ?_
      refine lv_isub hx hb dX2_latest_28 ?_
      refine lv_topi (fun x5 e5 => ?_)
      refine lv_bipush (v := 8) hx hb dX2_latest_29 (by decide) ?_
      refine lv_irem hx hb dX2_latest_31 (by decide) ?_
      refine lv_topi (fun x6 e6 => ?_)
      refine va_iald (D := D) hx hb hK hP 8 0 (f := (F 1)) (n := 8) rfl rfl (by rw [e6, e5, e4, e3]; exact latest_in hI.1.1 hI.1.2.1 c1 c2) dX2_latest_32 ?_
      refine lv_topi (fun x7 e7 => ?_)
      exact W.iret (v := x7) hx hb hr (fun t ht hW => ⟨⟨_, (g, d, F), rfl, rfl, by rw [ht]; exact hP, hD⟩, hS.F ht⟩) hS.2.2 dX2_latest_33
    · refine lv_iconst (v := (-1)) hx hb dX2_latest_12 (by decide) ?_
      exact W.iret (v := ((-1))) hx hb hr (fun t ht hW => ⟨⟨_, (g, d, F), rfl, rfl, by rw [ht]; exact hP, hD⟩, hS.F ht⟩) hS.2.2 dX2_latest_13
set_option maxHeartbeats 4000000 in
set_option maxRecDepth 100000 in
theorem s_X1_lapse (l : Launch) (D : va_G) (cI : ClassId) (a : Nat → Nat) (sz : Nat) (g : Nat → Int32) (d : Nat → UInt64) (F : Nat → Nat → Int32) (p_t : Int32) (p_dl : Int32) {bd : Nat} (b1 : Nat) (hI : CI bd g d F) (hb1 : bd ≤ b1) (hB : b1 ≤ 2000000000) (hd : 0 ≤ p_dl.toInt) (ht : 0 ≤ (g 6).toInt + p_t.toInt ∧ (g 6).toInt + p_t.toInt ≤ (b1 : Int)) : Met l yX1_lapse wsX1_lapse ({ frames := 1, cells := 0, slots := 0, locals := 21 }) (gP (KC D cI) D (cw cI a g d F) sz [.ref (a 2), .int p_t, .int p_dl]) (va_Qi (fun (r : Int32) (u : SS) => ((r = 0 ∧ p_dl.toInt < (g 6).toInt + p_t.toInt) ∨ r = 1) ∧ CP b1 g F u) (gB D (wfC cI a) (va_A (cw cI a g d F) sz)) (va_A (cw cI a g d F) sz)) 0 0 (va_A (cw cI a g d F) sz) := by
  refine Met.ofW (cc := cX1_lapse) (maxL := 3) (ret := (some .boolean)) (by decide) rfl ?_
  intro p e s m args below meth c s₁ B hml hv
  obtain ⟨rfl, hsz, hP, hD0, hKK⟩ := hv
  have hx := B.exec
  have hb := B.bytes
  have hr := B.returns
  have hts := atoms_spec (ws := wsX1_lapse) B.pre
  have hown : s.vm.findClass RX1 = some m.cls := findClass_of_methodNamed B.named
  have hlocks := B.notSynchronized
  subst hsz
  have hK := hKK.1
  have hok := KC_ok D cI
  have hD := hD0.self (sz := s.heap.size)
  generalize hAe : va_A (cw cI a g d F) s.heap.size = A at hD ⊢
  have hi1 : ∀ w ∈ wsX10, w ∈ wsX1_lapse := fun w h => List.mem_cons_of_mem _ (List.mem_append_left _ (List.mem_append_right _ h))
  have hi2 : ∀ w ∈ wsX20, w ∈ wsX1_lapse := fun w h => List.mem_cons_of_mem _ (List.mem_append_right _ h)
  have hA : ∀ q : Nat, s.heap.size ≤ q → A q := fun q h => by rw [← hAe]; exact Or.inr h
  have hS : va_S A s.heap s.heap [] := va_S.rf
  have hP : va_P D vwCl (cw cI a g d F) s.heap := hP
  have hl := lv_entry ([.ref ((a 2)), .int p_t, .int p_dl]) (n := 3) (Nat.le_of_ble_eq_true rfl)
  rw [lg_entry_eq]
  generalize (lg_sl ([.ref ((a 2)), .int p_t, .int p_dl]) ++ List.replicate (3 - (lg_sl ([.ref ((a 2)), .int p_t, .int p_dl])).length) Slot.unset).toArray = ls at hl ⊢
  have hl : lv_has ls 3 [(0, .ref ((a 2))), (1, .int p_t), (2, .int p_dl)] := hl
  refine lv_iload_n hx hb dX1_lapse_0 rfl (lv_at hl 1 rfl) ?_
  refine lv_iload_n hx hb dX1_lapse_1 rfl (lv_at hl 2 rfl) ?_
  refine lv_aload_n hx hb dX1_lapse_2 rfl (lv_at hl 0 rfl) ?_
  refine va_get (D := D) (ci := 1) (v := .int ((g 6))) (C := RX1) (T := TX1) (N := 2) hx hb hts hi1 hown hK hP 2 rfl rfl 1 (by decide) (hts (.fieldLink RX1 15 "GuardedCalls$Clock" "now" "I") (by decide +kernel)) (fun _ h9 => h9) rfl dX1_lapse_3 ?_
  refine lv_isub hx hb dX1_lapse_6 ?_
  refine lv_topi (fun x1 e1 => ?_)
  refine lv_icmp_le (tgt := 26) hx hb dX1_lapse_7 (by decide) (fun c2 => ?_) (fun c2 => ?_)
  · refine lv_aload_n hx hb dX1_lapse_26 rfl (lv_at hl 0 rfl) ?_
    refine lv_dup hx hb dX1_lapse_27 rfl ?_
    refine va_get (D := D) (ci := 1) (v := .int ((g 6))) (C := RX1) (T := TX1) (N := 2) hx hb hts hi1 hown hK hP 2 rfl rfl 1 (by decide) (hts (.fieldLink RX1 15 "GuardedCalls$Clock" "now" "I") (by decide +kernel)) (fun _ h9 => h9) rfl dX1_lapse_28 ?_
    refine lv_iload_n hx hb dX1_lapse_31 rfl (lv_at hl 1 rfl) ?_
    refine lv_iadd hx hb dX1_lapse_32 ?_
    refine lv_topi (fun x3 e3 => ?_)
    refine va_put (D := D) (ci := 1) (v := .int x3) (ty := .int) (C := RX1) (T := TX1) (N := 2) hx hb hts hi1 tyX1 tyX1_ok nmX1 hown hK hP hD hS 2 rfl rfl 1 (by decide) (hts (.fieldLink RX1 15 "GuardedCalls$Clock" "now" "I") (by decide +kernel)) (fun _ h9 => h9) rfl (by decide +kernel) rfl rfl (Nat.le_of_ble_eq_true rfl) dX1_lapse_33 (fun H locs hP hD hS => ?_)
    have hP : va_P D vwCl (cw cI a (upd g 6 x3) d F) H := hP
    have hD : va_D A (cw cI a (upd g 6 x3) d F) := hD
    have hI4 : CI b1 (upd g 6 x3) d F := ci_now hI hb1 (lap_go ht hB e3)
    refine lv_iconst (v := 1) hx hb dX1_lapse_36 (by decide) ?_
    exact W.zret (v := 1) hx hb hr (rfl) (fun t ht hW => ⟨⟨_, (upd g 6 x3, d, F), rfl, ⟨Or.inr rfl, hI4, rfl, rfl, rfl⟩, by rw [ht]; exact hP, hD⟩, hS.F ht⟩) hS.2.2 dX1_lapse_37
  · refine lv_aload_n hx hb dX1_lapse_10 rfl (lv_at hl 0 rfl) ?_
    refine lv_iload_n hx hb dX1_lapse_11 rfl (lv_at hl 2 rfl) ?_
    refine va_put (D := D) (ci := 1) (v := .int p_dl) (ty := .int) (C := RX1) (T := TX1) (N := 2) hx hb hts hi1 tyX1 tyX1_ok nmX1 hown hK hP hD hS 2 rfl rfl 1 (by decide) (hts (.fieldLink RX1 15 "GuardedCalls$Clock" "now" "I") (by decide +kernel)) (fun _ h9 => h9) rfl (by decide +kernel) rfl rfl (Nat.le_of_ble_eq_true rfl) dX1_lapse_12 (fun H locs hP hD hS => ?_)
    have hP : va_P D vwCl (cw cI a (upd g 6 p_dl) d F) H := hP
    have hD : va_D A (cw cI a (upd g 6 p_dl) d F) := hD
    have hI5 : CI b1 (upd g 6 p_dl) d F := ci_now hI hb1 ⟨hd, by have h9 := lap_lt hd hI.2.1.1 e1 c2; omega⟩
    refine lv_aload_n hx hb dX1_lapse_15 rfl (lv_at hl 0 rfl) ?_
    refine va_get (D := D) (ci := 1) (v := .ref ((a 1))) (C := RX1) (T := TX1) (N := 2) hx hb hts hi1 hown hK hP 2 rfl rfl 0 (by decide) (hts (.fieldLink RX1 9 "GuardedCalls$Clock" "events" "LGuardedCalls$Events;") (by decide +kernel)) (fun _ h9 => h9) rfl dX1_lapse_16 ?_
    refine lv_bipush (v := 41) hx hb dX1_lapse_19 (by decide) ?_
    refine gc_vv (As := [.int 41]) (rest := []) (w0 := cw cI a (upd g 6 p_dl) d F) (wc := cw cI a (upd g 6 p_dl) d F) (wr := []) (wf := wfC cI a) ⟨hx, hb, hml, hown, hts⟩ hKK hok hP hD hS hA [0, 1, 2, 3, 4, 5, 6, 7, 8, 9, 10, 11] [] rfl rfl (by decide) (s_X2_add l D cI a _ (upd g 6 p_dl) d F 41 hI5) (cwV 1 hts gX1_lapse_X2_add rfl rfl rfl (by decide +kernel) ⟨Nat.le_of_ble_eq_true rfl, Nat.le_of_ble_eq_true rfl⟩) (va_recv hK hP (ci := 2) (q0 := 1) rfl rfl) rfl hl.1 rfl (Nat.le_of_ble_eq_true rfl) dX1_lapse_21 ⟨Nat.le_of_ble_eq_true rfl, Nat.le_of_ble_eq_true rfl⟩ (fun u6 H locs hw6 hP hD hS => ?_)
    obtain ⟨g6, d6, F6⟩ := u6
    have hP : va_P D vwCl (cw cI a g6 d6 F6) H := hP
    have hD : va_D A (cw cI a g6 d6 F6) := hD
    refine lv_iconst (v := 0) hx hb dX1_lapse_24 (by decide) ?_
    exact W.zret (v := 0) hx hb hr (rfl) (fun t ht hW => ⟨⟨_, (g6, d6, F6), rfl, ⟨Or.inl ⟨rfl, lap_lt hd hI.2.1.1 e1 c2⟩, hw6.2.1, hw6.2.2.1, hw6.2.2.2.1, hw6.2.2.2.2⟩, by rw [ht]; exact hP, hD⟩, hS.F ht⟩) hS.2.2 dX1_lapse_25
set_option maxHeartbeats 4000000 in
set_option maxRecDepth 100000 in
theorem s_X5_append (l : Launch) (D : va_G) (cI : ClassId) (a : Nat → Nat) (sz : Nat) (g : Nat → Int32) (d : Nat → UInt64) (F : Nat → Nat → Int32) (p_x : Int32) (p_y : Int32) (p_z : Int32) {bd : Nat} (hI : CI bd g d F) (hy : 0 ≤ p_y.toInt ∧ p_y.toInt ≤ 50) : Met l yX5_append wsX5_append ({ frames := 0, cells := 0, slots := 0, locals := 0 }) (gP (KC D cI) D (cw cI a g d F) sz [.ref (a 3), .int p_x, .int p_y, .int p_z]) (va_Qi (fun (r : Int32) (u : SS) => (r = 0 ∨ r = 1) ∧ CP (bd) g F u) (gB D (wfC cI a) (va_A (cw cI a g d F) sz)) (va_A (cw cI a g d F) sz)) 0 0 (va_A (cw cI a g d F) sz) := by
  refine Met.ofW (cc := cX5_append) (maxL := 5) (ret := (some .boolean)) (by decide) rfl ?_
  intro p e s m args below meth c s₁ B hml hv
  obtain ⟨rfl, hsz, hP, hD0, hKK⟩ := hv
  have hx := B.exec
  have hb := B.bytes
  have hr := B.returns
  have hts := atoms_spec (ws := wsX5_append) B.pre
  have hown : s.vm.findClass RX5 = some m.cls := findClass_of_methodNamed B.named
  have hlocks := B.notSynchronized
  subst hsz
  have hK := hKK.1
  have hok := KC_ok D cI
  have hD := hD0.self (sz := s.heap.size)
  generalize hAe : va_A (cw cI a g d F) s.heap.size = A at hD ⊢
  have hi5 : ∀ w ∈ wsX50, w ∈ wsX5_append := fun w h => List.mem_cons_of_mem _ (List.mem_append_right _ h)
  have hA : ∀ q : Nat, s.heap.size ≤ q → A q := fun q h => by rw [← hAe]; exact Or.inr h
  have hS : va_S A s.heap s.heap [] := va_S.rf
  have hP : va_P D vwCl (cw cI a g d F) s.heap := hP
  have hl := lv_entry ([.ref ((a 3)), .int p_x, .int p_y, .int p_z]) (n := 5) (Nat.le_of_ble_eq_true rfl)
  rw [lg_entry_eq]
  generalize (lg_sl ([.ref ((a 3)), .int p_x, .int p_y, .int p_z]) ++ List.replicate (5 - (lg_sl ([.ref ((a 3)), .int p_x, .int p_y, .int p_z])).length) Slot.unset).toArray = ls at hl ⊢
  have hl : lv_has ls 5 [(0, .ref ((a 3))), (1, .int p_x), (2, .int p_y), (3, .int p_z)] := hl
  refine lv_aload_n hx hb dX5_append_0 rfl (lv_at hl 0 rfl) ?_
  refine va_get (D := D) (ci := 5) (v := .int ((g 8))) (C := RX5) (T := TX5) (N := 9) hx hb hts hi5 hown hK hP 3 rfl rfl 6 (by decide) (hts (.fieldLink RX5 33 "GuardedCalls$Supplier" "waiting" "I") (by decide +kernel)) (fun _ h9 => h9) rfl dX5_append_1 ?_
  refine lv_bipush (v := 20) hx hb dX5_append_4 (by decide) ?_
  refine lv_icmp_lt (tgt := 11) hx hb dX5_append_6 (by decide) (fun c1 => ?_) (fun c1 => ?_)
  · refine lv_aload_n hx hb dX5_append_11 rfl (lv_at hl 0 rfl) ?_
    refine va_get (D := D) (ci := 5) (v := .int ((g 7))) (C := RX5) (T := TX5) (N := 9) hx hb hts hi5 hown hK hP 3 rfl rfl 5 (by decide) (hts (.fieldLink RX5 29 "GuardedCalls$Supplier" "first" "I") (by decide +kernel)) (fun _ h9 => h9) rfl dX5_append_12 ?_
    refine lv_aload_n hx hb dX5_append_15 rfl (lv_at hl 0 rfl) ?_
    refine va_get (D := D) (ci := 5) (v := .int ((g 8))) (C := RX5) (T := TX5) (N := 9) hx hb hts hi5 hown hK hP 3 rfl rfl 6 (by decide) (hts (.fieldLink RX5 33 "GuardedCalls$Supplier" "waiting" "I") (by decide +kernel)) (fun _ h9 => h9) rfl dX5_append_16 ?_
    refine lv_iadd hx hb dX5_append_19 ?_
    refine lv_topi (fun x2 e2 => ?_)
    refine lv_bipush (v := 20) hx hb dX5_append_20 (by decide) ?_
    refine lv_irem hx hb dX5_append_22 (by decide) ?_
    refine lv_topi (fun x3 e3 => ?_)
    refine lv_istore (lv' := [(4, .int x3), (0, .ref ((a 3))), (1, .int p_x), (2, .int p_y), (3, .int p_z)]) hx hb dX5_append_23 hl (by decide) rfl (fun ls hl => ?_)
    refine lv_aload_n hx hb dX5_append_25 rfl (lv_at hl 1 rfl) ?_
    refine va_get (D := D) (ci := 5) (v := .ref ((a 9))) (C := RX5) (T := TX5) (N := 9) hx hb hts hi5 hown hK hP 3 rfl rfl 2 (by decide) (hts (.fieldLink RX5 19 "GuardedCalls$Supplier" "ways" "[I") (by decide +kernel)) (fun _ h9 => h9) rfl dX5_append_26 ?_
    refine lv_iload hx hb dX5_append_29 (lv_at hl 0 rfl) ?_
    refine lv_iload_n hx hb dX5_append_31 rfl (lv_at hl 2 rfl) ?_
    refine va_iast (D := D) hx hb hK hP hD hS 9 0 (f := (F 2)) (n := 20) rfl rfl (by rw [e3, e2]; exact app_in hI.1.2.2.1 hI.1.2.2.2.1) dX5_append_32 (fun H locs hP hD hS => ?_)
    have hP : va_P D vwCl (cw cI a g d (vf_upd F 2 (upd (F 2) x3.toNatClampNeg p_x))) H := hP
    have hD : va_D A (cw cI a g d (vf_upd F 2 (upd (F 2) x3.toNatClampNeg p_x))) := hD
    refine lv_aload_n hx hb dX5_append_33 rfl (lv_at hl 1 rfl) ?_
    refine va_get (D := D) (ci := 5) (v := .ref ((a 10))) (C := RX5) (T := TX5) (N := 9) hx hb hts hi5 hown hK hP 3 rfl rfl 3 (by decide) (hts (.fieldLink RX5 23 "GuardedCalls$Supplier" "latencies" "[I") (by decide +kernel)) (fun _ h9 => h9) rfl dX5_append_34 ?_
    refine lv_iload hx hb dX5_append_37 (lv_at hl 0 rfl) ?_
    refine lv_iload_n hx hb dX5_append_39 rfl (lv_at hl 3 rfl) ?_
    refine va_iast (D := D) hx hb hK hP hD hS 10 0 (f := (F 3)) (n := 20) rfl rfl (by rw [e3, e2]; exact app_in hI.1.2.2.1 hI.1.2.2.2.1) dX5_append_40 (fun H locs hP hD hS => ?_)
    have hP : va_P D vwCl (cw cI a g d (vf_upd (vf_upd F 2 (upd (F 2) x3.toNatClampNeg p_x)) 3 (upd (F 3) x3.toNatClampNeg p_y))) H := hP
    have hD : va_D A (cw cI a g d (vf_upd (vf_upd F 2 (upd (F 2) x3.toNatClampNeg p_x)) 3 (upd (F 3) x3.toNatClampNeg p_y))) := hD
    have hI4 : CI bd g d (vf_upd (vf_upd F 2 (upd (F 2) x3.toNatClampNeg p_x)) 3 (upd (F 3) x3.toNatClampNeg p_y)) := ⟨hI.1, hI.2.1, hI.2.2.1, hI.2.2.2.1, hI.2.2.2.2.1, hI.2.2.2.2.2.1, hI.2.2.2.2.2.2.1, hI.2.2.2.2.2.2.2.1, hI.2.2.2.2.2.2.2.2.1, lat_upd hI.2.2.2.2.2.2.2.2.2 hy⟩
    refine lv_aload_n hx hb dX5_append_41 rfl (lv_at hl 1 rfl) ?_
    refine va_get (D := D) (ci := 5) (v := .ref ((a 11))) (C := RX5) (T := TX5) (N := 9) hx hb hts hi5 hown hK hP 3 rfl rfl 4 (by decide) (hts (.fieldLink RX5 26 "GuardedCalls$Supplier" "values" "[I") (by decide +kernel)) (fun _ h9 => h9) rfl dX5_append_42 ?_
    refine lv_iload hx hb dX5_append_45 (lv_at hl 0 rfl) ?_
    refine lv_iload_n hx hb dX5_append_47 rfl (lv_at hl 4 rfl) ?_
    refine va_iast (D := D) hx hb hK hP hD hS 11 0 (f := (F 4)) (n := 20) rfl rfl (by rw [e3, e2]; exact app_in hI.1.2.2.1 hI.1.2.2.2.1) dX5_append_48 (fun H locs hP hD hS => ?_)
    have hP : va_P D vwCl (cw cI a g d (vf_upd (vf_upd (vf_upd F 2 (upd (F 2) x3.toNatClampNeg p_x)) 3 (upd (F 3) x3.toNatClampNeg p_y)) 4 (upd (F 4) x3.toNatClampNeg p_z))) H := hP
    have hD : va_D A (cw cI a g d (vf_upd (vf_upd (vf_upd F 2 (upd (F 2) x3.toNatClampNeg p_x)) 3 (upd (F 3) x3.toNatClampNeg p_y)) 4 (upd (F 4) x3.toNatClampNeg p_z))) := hD
    refine lv_aload_n hx hb dX5_append_49 rfl (lv_at hl 1 rfl) ?_
    refine lv_dup hx hb dX5_append_50 rfl ?_
    refine va_get (D := D) (ci := 5) (v := .int ((g 8))) (C := RX5) (T := TX5) (N := 9) hx hb hts hi5 hown hK hP 3 rfl rfl 6 (by decide) (hts (.fieldLink RX5 33 "GuardedCalls$Supplier" "waiting" "I") (by decide +kernel)) (fun _ h9 => h9) rfl dX5_append_51 ?_
    refine lv_iconst (v := 1) hx hb dX5_append_54 (by decide) ?_
    refine lv_iadd hx hb dX5_append_55 ?_
    refine lv_topi (fun x5 e5 => ?_)
    refine va_put (D := D) (ci := 5) (v := .int x5) (ty := .int) (C := RX5) (T := TX5) (N := 9) hx hb hts hi5 tyX5 tyX5_ok nmX5 hown hK hP hD hS 3 rfl rfl 6 (by decide) (hts (.fieldLink RX5 33 "GuardedCalls$Supplier" "waiting" "I") (by decide +kernel)) (fun _ h9 => h9) rfl (by decide +kernel) rfl rfl (Nat.le_of_ble_eq_true rfl) dX5_append_56 (fun H locs hP hD hS => ?_)
    have hP : va_P D vwCl (cw cI a (upd g 8 x5) d (vf_upd (vf_upd (vf_upd F 2 (upd (F 2) x3.toNatClampNeg p_x)) 3 (upd (F 3) x3.toNatClampNeg p_y)) 4 (upd (F 4) x3.toNatClampNeg p_z))) H := hP
    have hD : va_D A (cw cI a (upd g 8 x5) d (vf_upd (vf_upd (vf_upd F 2 (upd (F 2) x3.toNatClampNeg p_x)) 3 (upd (F 3) x3.toNatClampNeg p_y)) 4 (upd (F 4) x3.toNatClampNeg p_z))) := hD
    have hI6 : CI bd (upd g 8 x5) d (vf_upd (vf_upd (vf_upd F 2 (upd (F 2) x3.toNatClampNeg p_x)) 3 (upd (F 3) x3.toNatClampNeg p_y)) 4 (upd (F 4) x3.toNatClampNeg p_z)) := ⟨⟨hI4.1.1, hI4.1.2.1, hI4.1.2.2.1, by show 0 ≤ (x5).toInt ∧ (x5).toInt ≤ 20; rw [e5]; exact wait_up hI.1.2.2.2.1 c1, hI4.1.2.2.2.2.1, hI4.1.2.2.2.2.2⟩, hI4.2.1, hI4.2.2.1, hI4.2.2.2.1, hI4.2.2.2.2.1, hI4.2.2.2.2.2.1, hI4.2.2.2.2.2.2.1, hI4.2.2.2.2.2.2.2.1, hI4.2.2.2.2.2.2.2.2.1, hI4.2.2.2.2.2.2.2.2.2⟩
    refine lv_iconst (v := 1) hx hb dX5_append_59 (by decide) ?_
    exact W.zret (v := 1) hx hb hr (rfl) (fun t ht hW => ⟨⟨_, (upd g 8 x5, d, vf_upd (vf_upd (vf_upd F 2 (upd (F 2) x3.toNatClampNeg p_x)) 3 (upd (F 3) x3.toNatClampNeg p_y)) 4 (upd (F 4) x3.toNatClampNeg p_z)), rfl, ⟨Or.inr rfl, hI6, rfl, rfl, rfl⟩, by rw [ht]; exact hP, hD⟩, hS.F ht⟩) hS.2.2 dX5_append_60
  · refine lv_iconst (v := 0) hx hb dX5_append_9 (by decide) ?_
    exact W.zret (v := 0) hx hb hr (rfl) (fun t ht hW => ⟨⟨_, (g, d, F), rfl, ⟨Or.inl rfl, hI, rfl, rfl, rfl⟩, by rw [ht]; exact hP, hD⟩, hS.F ht⟩) hS.2.2 dX5_append_10
set_option maxHeartbeats 4000000 in
set_option maxRecDepth 100000 in
theorem s_X5_succeed (l : Launch) (D : va_G) (cI : ClassId) (a : Nat → Nat) (sz : Nat) (g : Nat → Int32) (d : Nat → UInt64) (F : Nat → Nat → Int32) (p_v : Int32) {bd : Nat} (hI : CI bd g d F) : Met l yX5_succeed wsX5_succeed ({ frames := 1, cells := 0, slots := 0, locals := 21 }) (gP (KC D cI) D (cw cI a g d F) sz [.ref (a 3), .int p_v]) (va_Qi (fun (r : Int32) (u : SS) => (r = 0) ∧ CP (bd) g F u) (gB D (wfC cI a) (va_A (cw cI a g d F) sz)) (va_A (cw cI a g d F) sz)) 0 0 (va_A (cw cI a g d F) sz) := by
  refine Met.ofW (cc := cX5_succeed) (maxL := 2) (ret := (some .int)) (by decide) rfl ?_
  intro p e s m args below meth c s₁ B hml hv
  obtain ⟨rfl, hsz, hP, hD0, hKK⟩ := hv
  have hx := B.exec
  have hb := B.bytes
  have hr := B.returns
  have hts := atoms_spec (ws := wsX5_succeed) B.pre
  have hown : s.vm.findClass RX5 = some m.cls := findClass_of_methodNamed B.named
  have hlocks := B.notSynchronized
  subst hsz
  have hK := hKK.1
  have hok := KC_ok D cI
  have hD := hD0.self (sz := s.heap.size)
  generalize hAe : va_A (cw cI a g d F) s.heap.size = A at hD ⊢
  have hi5 : ∀ w ∈ wsX50, w ∈ wsX5_succeed := fun w h => List.mem_cons_of_mem _ (List.mem_append_left _ (List.mem_append_right _ h))
  have hi2 : ∀ w ∈ wsX20, w ∈ wsX5_succeed := fun w h => List.mem_cons_of_mem _ (List.mem_append_right _ h)
  have hA : ∀ q : Nat, s.heap.size ≤ q → A q := fun q h => by rw [← hAe]; exact Or.inr h
  have hS : va_S A s.heap s.heap [] := va_S.rf
  have hP : va_P D vwCl (cw cI a g d F) s.heap := hP
  have hl := lv_entry ([.ref ((a 3)), .int p_v]) (n := 2) (Nat.le_of_ble_eq_true rfl)
  rw [lg_entry_eq]
  generalize (lg_sl ([.ref ((a 3)), .int p_v]) ++ List.replicate (2 - (lg_sl ([.ref ((a 3)), .int p_v])).length) Slot.unset).toArray = ls at hl ⊢
  have hl : lv_has ls 2 [(0, .ref ((a 3))), (1, .int p_v)] := hl
  refine lv_aload_n hx hb dX5_succeed_0 rfl (lv_at hl 0 rfl) ?_
  refine lv_iload_n hx hb dX5_succeed_1 rfl (lv_at hl 1 rfl) ?_
  refine va_put (D := D) (ci := 5) (v := .int p_v) (ty := .int) (C := RX5) (T := TX5) (N := 9) hx hb hts hi5 tyX5 tyX5_ok nmX5 hown hK hP hD hS 3 rfl rfl 8 (by decide) (hts (.fieldLink RX5 39 "GuardedCalls$Supplier" "answer" "I") (by decide +kernel)) (fun _ h9 => h9) rfl (by decide +kernel) rfl rfl (Nat.le_of_ble_eq_true rfl) dX5_succeed_2 (fun H locs hP hD hS => ?_)
  have hP : va_P D vwCl (cw cI a (upd g 10 p_v) d F) H := hP
  have hD : va_D A (cw cI a (upd g 10 p_v) d F) := hD
  refine lv_aload_n hx hb dX5_succeed_5 rfl (lv_at hl 0 rfl) ?_
  refine va_get (D := D) (ci := 5) (v := .ref ((a 1))) (C := RX5) (T := TX5) (N := 9) hx hb hts hi5 hown hK hP 3 rfl rfl 1 (by decide) (hts (.fieldLink RX5 15 "GuardedCalls$Supplier" "events" "LGuardedCalls$Events;") (by decide +kernel)) (fun _ h9 => h9) rfl dX5_succeed_6 ?_
  refine lv_bipush (v := 51) hx hb dX5_succeed_9 (by decide) ?_
  refine gc_vv (As := [.int 51]) (rest := []) (w0 := cw cI a (upd g 10 p_v) d F) (wc := cw cI a (upd g 10 p_v) d F) (wr := []) (wf := wfC cI a) ⟨hx, hb, hml, hown, hts⟩ hKK hok hP hD hS hA [0, 1, 2, 3, 4, 5, 6, 7, 8, 9, 10, 11] [] rfl rfl (by decide) (s_X2_add l D cI a _ (upd g 10 p_v) d F 51 hI) (cwV 1 hts gX5_succeed_X2_add rfl rfl rfl (by decide +kernel) ⟨Nat.le_of_ble_eq_true rfl, Nat.le_of_ble_eq_true rfl⟩) (va_recv hK hP (ci := 2) (q0 := 1) rfl rfl) rfl hl.1 rfl (Nat.le_of_ble_eq_true rfl) dX5_succeed_11 ⟨Nat.le_of_ble_eq_true rfl, Nat.le_of_ble_eq_true rfl⟩ (fun u1 H locs hw1 hP hD hS => ?_)
  obtain ⟨g1, d1, F1⟩ := u1
  have hP : va_P D vwCl (cw cI a g1 d1 F1) H := hP
  have hD : va_D A (cw cI a g1 d1 F1) := hD
  refine lv_iconst (v := 0) hx hb dX5_succeed_14 (by decide) ?_
  exact W.iret (v := 0) hx hb hr (fun t ht hW => ⟨⟨_, (g1, d1, F1), rfl, ⟨rfl, hw1.2.1, hw1.2.2.1, hw1.2.2.2.1, hw1.2.2.2.2⟩, by rw [ht]; exact hP, hD⟩, hS.F ht⟩) hS.2.2 dX5_succeed_15
set_option maxHeartbeats 4000000 in
set_option maxRecDepth 100000 in
theorem s_X5_supply (l : Launch) (D : va_G) (cI : ClassId) (a : Nat → Nat) (sz : Nat) (g : Nat → Int32) (d : Nat → UInt64) (F : Nat → Nat → Int32) (p_dl : Int32) {bd : Nat} (hI : CI bd g d F) (hd : 0 ≤ p_dl.toInt) (hB : bd + 50 ≤ 2000000000) : Met l yX5_supply wsX5_supply ({ frames := 2, cells := 0, slots := 0, locals := 43 }) (gP (KC D cI) D (cw cI a g d F) sz [.ref (a 3), .int p_dl]) (va_Qi (fun (r : Int32) (u : SS) => (True) ∧ CP (bd + 50) g F u) (gB D (wfC cI a) (va_A (cw cI a g d F) sz)) (va_A (cw cI a g d F) sz)) 0 0 (va_A (cw cI a g d F) sz) := by
  refine Met.ofW (cc := cX5_supply) (maxL := 3) (ret := (some .int)) (by decide) rfl ?_
  intro p e s m args below meth c s₁ B hml hv
  obtain ⟨rfl, hsz, hP, hD0, hKK⟩ := hv
  have hx := B.exec
  have hb := B.bytes
  have hr := B.returns
  have hts := atoms_spec (ws := wsX5_supply) B.pre
  have hown : s.vm.findClass RX5 = some m.cls := findClass_of_methodNamed B.named
  have hlocks := B.notSynchronized
  subst hsz
  have hK := hKK.1
  have hok := KC_ok D cI
  have hD := hD0.self (sz := s.heap.size)
  generalize hAe : va_A (cw cI a g d F) s.heap.size = A at hD ⊢
  have hi5 : ∀ w ∈ wsX50, w ∈ wsX5_supply := fun w h => List.mem_cons_of_mem _ (List.mem_append_left _ (List.mem_append_left _ (List.mem_append_right _ h)))
  have hi2 : ∀ w ∈ wsX20, w ∈ wsX5_supply := fun w h => List.mem_cons_of_mem _ (List.mem_append_left _ (List.mem_append_right _ h))
  have hi1 : ∀ w ∈ wsX10, w ∈ wsX5_supply := fun w h => List.mem_cons_of_mem _ (List.mem_append_right _ h)
  have hA : ∀ q : Nat, s.heap.size ≤ q → A q := fun q h => by rw [← hAe]; exact Or.inr h
  have hS : va_S A s.heap s.heap [] := va_S.rf
  have hP : va_P D vwCl (cw cI a g d F) s.heap := hP
  have hl := lv_entry ([.ref ((a 3)), .int p_dl]) (n := 3) (Nat.le_of_ble_eq_true rfl)
  rw [lg_entry_eq]
  generalize (lg_sl ([.ref ((a 3)), .int p_dl]) ++ List.replicate (3 - (lg_sl ([.ref ((a 3)), .int p_dl])).length) Slot.unset).toArray = ls at hl ⊢
  have hl : lv_has ls 3 [(0, .ref ((a 3))), (1, .int p_dl)] := hl
  refine lv_aload_n hx hb dX5_supply_0 rfl (lv_at hl 0 rfl) ?_
  refine lv_dup hx hb dX5_supply_1 rfl ?_
  refine va_get (D := D) (ci := 5) (v := .int ((g 9))) (C := RX5) (T := TX5) (N := 9) hx hb hts hi5 hown hK hP 3 rfl rfl 7 (by decide) (hts (.fieldLink RX5 36 "GuardedCalls$Supplier" "calls" "I") (by decide +kernel)) (fun _ h9 => h9) rfl dX5_supply_2 ?_
  refine lv_iconst (v := 1) hx hb dX5_supply_5 (by decide) ?_
  refine lv_iadd hx hb dX5_supply_6 ?_
  refine lv_topi (fun x1 e1 => ?_)
  refine va_put (D := D) (ci := 5) (v := .int x1) (ty := .int) (C := RX5) (T := TX5) (N := 9) hx hb hts hi5 tyX5 tyX5_ok nmX5 hown hK hP hD hS 3 rfl rfl 7 (by decide) (hts (.fieldLink RX5 36 "GuardedCalls$Supplier" "calls" "I") (by decide +kernel)) (fun _ h9 => h9) rfl (by decide +kernel) rfl rfl (Nat.le_of_ble_eq_true rfl) dX5_supply_7 (fun H locs hP hD hS => ?_)
  have hP : va_P D vwCl (cw cI a (upd g 9 x1) d F) H := hP
  have hD : va_D A (cw cI a (upd g 9 x1) d F) := hD
  refine lv_aload_n hx hb dX5_supply_10 rfl (lv_at hl 0 rfl) ?_
  refine va_get (D := D) (ci := 5) (v := .int ((g 8))) (C := RX5) (T := TX5) (N := 9) hx hb hts hi5 hown hK hP 3 rfl rfl 6 (by decide) (hts (.fieldLink RX5 33 "GuardedCalls$Supplier" "waiting" "I") (by decide +kernel)) (fun _ h9 => h9) rfl dX5_supply_11 ?_
  refine lv_iconst (v := 1) hx hb dX5_supply_14 (by decide) ?_
  refine lv_icmp_ge (tgt := 24) hx hb dX5_supply_15 (by decide) (fun c2 => ?_) (fun c2 => ?_)
  · refine lv_aload_n hx hb dX5_supply_24 rfl (lv_at hl 0 rfl) ?_
    refine va_get (D := D) (ci := 5) (v := .int ((g 7))) (C := RX5) (T := TX5) (N := 9) hx hb hts hi5 hown hK hP 3 rfl rfl 5 (by decide) (hts (.fieldLink RX5 29 "GuardedCalls$Supplier" "first" "I") (by decide +kernel)) (fun _ h9 => h9) rfl dX5_supply_25 ?_
    refine lv_istore_n (lv' := [(2, .int ((g 7))), (0, .ref ((a 3))), (1, .int p_dl)]) hx hb dX5_supply_28 rfl hl (by decide) rfl (fun ls hl => ?_)
    refine lv_aload_n hx hb dX5_supply_29 rfl (lv_at hl 1 rfl) ?_
    refine lv_aload_n hx hb dX5_supply_30 rfl (lv_at hl 1 rfl) ?_
    refine va_get (D := D) (ci := 5) (v := .int ((g 7))) (C := RX5) (T := TX5) (N := 9) hx hb hts hi5 hown hK hP 3 rfl rfl 5 (by decide) (hts (.fieldLink RX5 29 "GuardedCalls$Supplier" "first" "I") (by decide +kernel)) (fun _ h9 => h9) rfl dX5_supply_31 ?_
    refine lv_iconst (v := 1) hx hb dX5_supply_34 (by decide) ?_
    refine lv_iadd hx hb dX5_supply_35 ?_
    refine lv_topi (fun x3 e3 => ?_)
    refine lv_bipush (v := 20) hx hb dX5_supply_36 (by decide) ?_
    refine lv_irem hx hb dX5_supply_38 (by decide) ?_
    refine lv_topi (fun x4 e4 => ?_)
    refine va_put (D := D) (ci := 5) (v := .int x4) (ty := .int) (C := RX5) (T := TX5) (N := 9) hx hb hts hi5 tyX5 tyX5_ok nmX5 hown hK hP hD hS 3 rfl rfl 5 (by decide) (hts (.fieldLink RX5 29 "GuardedCalls$Supplier" "first" "I") (by decide +kernel)) (fun _ h9 => h9) rfl (by decide +kernel) rfl rfl (Nat.le_of_ble_eq_true rfl) dX5_supply_39 (fun H locs hP hD hS => ?_)
    have hP : va_P D vwCl (cw cI a (upd (upd g 9 x1) 7 x4) d F) H := hP
    have hD : va_D A (cw cI a (upd (upd g 9 x1) 7 x4) d F) := hD
    have hI5 : CI bd (upd (upd g 9 x1) 7 x4) d F := ⟨⟨hI.1.1, hI.1.2.1, by show vp_in x4 20; rw [e4, e3]; exact ring20 hI.1.2.2.1, hI.1.2.2.2.1, hI.1.2.2.2.2.1, hI.1.2.2.2.2.2⟩, hI.2.1, hI.2.2.1, hI.2.2.2.1, hI.2.2.2.2.1, hI.2.2.2.2.2.1, hI.2.2.2.2.2.2.1, hI.2.2.2.2.2.2.2.1, hI.2.2.2.2.2.2.2.2.1, hI.2.2.2.2.2.2.2.2.2⟩
    refine lv_aload_n hx hb dX5_supply_42 rfl (lv_at hl 1 rfl) ?_
    refine lv_dup hx hb dX5_supply_43 rfl ?_
    refine va_get (D := D) (ci := 5) (v := .int ((g 8))) (C := RX5) (T := TX5) (N := 9) hx hb hts hi5 hown hK hP 3 rfl rfl 6 (by decide) (hts (.fieldLink RX5 33 "GuardedCalls$Supplier" "waiting" "I") (by decide +kernel)) (fun _ h9 => h9) rfl dX5_supply_44 ?_
    refine lv_iconst (v := 1) hx hb dX5_supply_47 (by decide) ?_
    refine lv_isub hx hb dX5_supply_48 ?_
    refine lv_topi (fun x6 e6 => ?_)
    refine va_put (D := D) (ci := 5) (v := .int x6) (ty := .int) (C := RX5) (T := TX5) (N := 9) hx hb hts hi5 tyX5 tyX5_ok nmX5 hown hK hP hD hS 3 rfl rfl 6 (by decide) (hts (.fieldLink RX5 33 "GuardedCalls$Supplier" "waiting" "I") (by decide +kernel)) (fun _ h9 => h9) rfl (by decide +kernel) rfl rfl (Nat.le_of_ble_eq_true rfl) dX5_supply_49 (fun H locs hP hD hS => ?_)
    have hP : va_P D vwCl (cw cI a (upd (upd (upd g 9 x1) 7 x4) 8 x6) d F) H := hP
    have hD : va_D A (cw cI a (upd (upd (upd g 9 x1) 7 x4) 8 x6) d F) := hD
    have hI7 : CI bd (upd (upd (upd g 9 x1) 7 x4) 8 x6) d F := ⟨⟨hI5.1.1, hI5.1.2.1, hI5.1.2.2.1, by show 0 ≤ (x6).toInt ∧ (x6).toInt ≤ 20; rw [e6]; exact wait_down hI.1.2.2.2.1 c2, hI5.1.2.2.2.2.1, hI5.1.2.2.2.2.2⟩, hI5.2.1, hI5.2.2.1, hI5.2.2.2.1, hI5.2.2.2.2.1, hI5.2.2.2.2.2.1, hI5.2.2.2.2.2.2.1, hI5.2.2.2.2.2.2.2.1, hI5.2.2.2.2.2.2.2.2.1, hI5.2.2.2.2.2.2.2.2.2⟩
    refine lv_aload_n hx hb dX5_supply_52 rfl (lv_at hl 1 rfl) ?_
    refine va_get (D := D) (ci := 5) (v := .ref ((a 2))) (C := RX5) (T := TX5) (N := 9) hx hb hts hi5 hown hK hP 3 rfl rfl 0 (by decide) (hts (.fieldLink RX5 9 "GuardedCalls$Supplier" "clock" "LGuardedCalls$Clock;") (by decide +kernel)) (fun _ h9 => h9) rfl dX5_supply_53 ?_
    refine lv_aload_n hx hb dX5_supply_56 rfl (lv_at hl 1 rfl) ?_
    refine va_get (D := D) (ci := 5) (v := .ref ((a 10))) (C := RX5) (T := TX5) (N := 9) hx hb hts hi5 hown hK hP 3 rfl rfl 3 (by decide) (hts (.fieldLink RX5 23 "GuardedCalls$Supplier" "latencies" "[I") (by decide +kernel)) (fun _ h9 => h9) rfl dX5_supply_57 ?_
    refine lv_iload_n hx hb dX5_supply_60 rfl (lv_at hl 0 rfl) ?_
    refine va_iald (D := D) hx hb hK hP 10 0 (f := (F 3)) (n := 20) rfl rfl (hI.1.2.2.1) dX5_supply_61 ?_
    refine lv_topi (fun x8 e8 => ?_)
    refine lv_iload_n hx hb dX5_supply_62 rfl (lv_at hl 2 rfl) ?_
    refine gc_vi (As := [.int x8, .int p_dl]) (rest := []) (w0 := cw cI a (upd (upd (upd g 9 x1) 7 x4) 8 x6) d F) (wc := cw cI a (upd (upd (upd g 9 x1) 7 x4) 8 x6) d F) (wr := []) (wf := wfC cI a) ⟨hx, hb, hml, hown, hts⟩ hKK hok hP hD hS hA [0, 1, 2, 3, 4, 5, 6, 7, 8, 9, 10, 11] [] rfl rfl (by decide) (s_X1_lapse l D cI a _ (upd (upd (upd g 9 x1) 7 x4) 8 x6) d F x8 p_dl (bd + 50) hI7 (Nat.le_add_right _ _) hB hd (lat_rng hI7 e8)) (cwV 2 hts gX5_supply_X1_lapse rfl rfl rfl (by decide +kernel) ⟨Nat.le_of_ble_eq_true rfl, Nat.le_of_ble_eq_true rfl⟩) (va_recv hK hP (ci := 1) (q0 := 2) rfl rfl) rfl hl.1 rfl (Nat.le_of_ble_eq_true rfl) dX5_supply_63 ⟨Nat.le_of_ble_eq_true rfl, Nat.le_of_ble_eq_true rfl⟩ (fun r9 u9 H locs hw9 hP hD hS => ?_)
    obtain ⟨g9, d9, F9⟩ := u9
    have hP : va_P D vwCl (cw cI a g9 d9 F9) H := hP
    have hD : va_D A (cw cI a g9 d9 F9) := hD
    refine lv_if_ne (tgt := 72) hx hb dX5_supply_66 (by decide) (fun c10 => ?_) (fun c10 => ?_)
    · refine lv_aload_n hx hb dX5_supply_72 rfl (lv_at hl 1 rfl) ?_
      refine va_get (D := D) (ci := 5) (v := .ref ((a 9))) (C := RX5) (T := TX5) (N := 9) hx hb hts hi5 hown hK hP 3 rfl rfl 2 (by decide) (hts (.fieldLink RX5 19 "GuardedCalls$Supplier" "ways" "[I") (by decide +kernel)) (fun _ h9 => h9) rfl dX5_supply_73 ?_
      refine lv_iload_n hx hb dX5_supply_76 rfl (lv_at hl 0 rfl) ?_
      refine va_iald (D := D) hx hb hK hP 9 0 (f := (F9 2)) (n := 20) rfl rfl (hI.1.2.2.1) dX5_supply_77 ?_
      refine lv_topi (fun x11 e11 => ?_)
      by_cases h12 : x11 = 1
      · refine lv_lookup (off := 26) (tgt := 104) hx hb dX5_supply_78 (by decide) (by rw [h12]; decide) (by decide) ?_
        refine lv_aload_n hx hb dX5_supply_104 rfl (lv_at hl 1 rfl) ?_
        refine va_get (D := D) (ci := 5) (v := .ref ((a 1))) (C := RX5) (T := TX5) (N := 9) hx hb hts hi5 hown hK hP 3 rfl rfl 1 (by decide) (hts (.fieldLink RX5 15 "GuardedCalls$Supplier" "events" "LGuardedCalls$Events;") (by decide +kernel)) (fun _ h9 => h9) rfl dX5_supply_105 ?_
        refine lv_bipush (v := 52) hx hb dX5_supply_108 (by decide) ?_
        refine gc_vv (As := [.int 52]) (rest := []) (w0 := cw cI a g9 d9 F9) (wc := cw cI a g9 d9 F9) (wr := []) (wf := wfC cI a) ⟨hx, hb, hml, hown, hts⟩ hKK hok hP hD hS hA [0, 1, 2, 3, 4, 5, 6, 7, 8, 9, 10, 11] [] rfl rfl (by decide) (s_X2_add l D cI a _ g9 d9 F9 52 hw9.2.1) (cwV 1 hts gX5_supply_X2_add rfl rfl rfl (by decide +kernel) ⟨Nat.le_of_ble_eq_true rfl, Nat.le_of_ble_eq_true rfl⟩) (va_recv hK hP (ci := 2) (q0 := 1) rfl rfl) rfl hl.1 rfl (Nat.le_of_ble_eq_true rfl) dX5_supply_110 ⟨Nat.le_of_ble_eq_true rfl, Nat.le_of_ble_eq_true rfl⟩ (fun u13 H locs hw13 hP hD hS => ?_)
        obtain ⟨g13, d13, F13⟩ := u13
        have hP : va_P D vwCl (cw cI a g13 d13 F13) H := hP
        have hD : va_D A (cw cI a g13 d13 F13) := hD
        refine lv_bipush (v := 16) hx hb dX5_supply_113 (by decide) ?_
        exact W.iret (v := 16) hx hb hr (fun t ht hW => ⟨⟨_, (g13, d13, F13), rfl, ⟨trivial, (CI_mono (by omega) hw13.2.1), (hw13.2.2.1.trans hw9.2.2.1), (hw13.2.2.2.1.trans hw9.2.2.2.1), (hw13.2.2.2.2.trans hw9.2.2.2.2)⟩, by rw [ht]; exact hP, hD⟩, hS.F ht⟩) hS.2.2 dX5_supply_115
      by_cases h14 : x11 = 2
      · refine lv_lookup (off := 38) (tgt := 116) hx hb dX5_supply_78 (by decide) (by rw [h14]; decide) (by decide) ?_
        refine lv_aload_n hx hb dX5_supply_116 rfl (lv_at hl 1 rfl) ?_
        refine va_get (D := D) (ci := 5) (v := .ref ((a 1))) (C := RX5) (T := TX5) (N := 9) hx hb hts hi5 hown hK hP 3 rfl rfl 1 (by decide) (hts (.fieldLink RX5 15 "GuardedCalls$Supplier" "events" "LGuardedCalls$Events;") (by decide +kernel)) (fun _ h9 => h9) rfl dX5_supply_117 ?_
        refine lv_bipush (v := 53) hx hb dX5_supply_120 (by decide) ?_
        refine gc_vv (As := [.int 53]) (rest := []) (w0 := cw cI a g9 d9 F9) (wc := cw cI a g9 d9 F9) (wr := []) (wf := wfC cI a) ⟨hx, hb, hml, hown, hts⟩ hKK hok hP hD hS hA [0, 1, 2, 3, 4, 5, 6, 7, 8, 9, 10, 11] [] rfl rfl (by decide) (s_X2_add l D cI a _ g9 d9 F9 53 hw9.2.1) (cwV 1 hts gX5_supply_X2_add rfl rfl rfl (by decide +kernel) ⟨Nat.le_of_ble_eq_true rfl, Nat.le_of_ble_eq_true rfl⟩) (va_recv hK hP (ci := 2) (q0 := 1) rfl rfl) rfl hl.1 rfl (Nat.le_of_ble_eq_true rfl) dX5_supply_122 ⟨Nat.le_of_ble_eq_true rfl, Nat.le_of_ble_eq_true rfl⟩ (fun u15 H locs hw15 hP hD hS => ?_)
        obtain ⟨g15, d15, F15⟩ := u15
        have hP : va_P D vwCl (cw cI a g15 d15 F15) H := hP
        have hD : va_D A (cw cI a g15 d15 F15) := hD
        refine lv_bipush (v := 32) hx hb dX5_supply_125 (by decide) ?_
        exact W.iret (v := 32) hx hb hr (fun t ht hW => ⟨⟨_, (g15, d15, F15), rfl, ⟨trivial, (CI_mono (by omega) hw15.2.1), (hw15.2.2.1.trans hw9.2.2.1), (hw15.2.2.2.1.trans hw9.2.2.2.1), (hw15.2.2.2.2.trans hw9.2.2.2.2)⟩, by rw [ht]; exact hP, hD⟩, hS.F ht⟩) hS.2.2 dX5_supply_127
      refine lv_lookup (off := 50) (tgt := 128) hx hb dX5_supply_78 (by decide) ((lv_osw h12 rfl).trans ((lv_osw h14 rfl).trans (rfl))) (by decide) ?_
      refine lv_aload_n hx hb dX5_supply_128 rfl (lv_at hl 1 rfl) ?_
      refine lv_aload_n hx hb dX5_supply_129 rfl (lv_at hl 1 rfl) ?_
      refine va_get (D := D) (ci := 5) (v := .ref ((a 11))) (C := RX5) (T := TX5) (N := 9) hx hb hts hi5 hown hK hP 3 rfl rfl 4 (by decide) (hts (.fieldLink RX5 26 "GuardedCalls$Supplier" "values" "[I") (by decide +kernel)) (fun _ h9 => h9) rfl dX5_supply_130 ?_
      refine lv_iload_n hx hb dX5_supply_133 rfl (lv_at hl 0 rfl) ?_
      refine va_iald (D := D) hx hb hK hP 11 0 (f := (F9 4)) (n := 20) rfl rfl (hI.1.2.2.1) dX5_supply_134 ?_
      refine lv_topi (fun x16 e16 => ?_)
      refine gc_vi (As := [.int x16]) (rest := []) (w0 := cw cI a g9 d9 F9) (wc := cw cI a g9 d9 F9) (wr := []) (wf := wfC cI a) ⟨hx, hb, hml, hown, hts⟩ hKK hok hP hD hS hA [0, 1, 2, 3, 4, 5, 6, 7, 8, 9, 10, 11] [] rfl rfl (by decide) (s_X5_succeed l D cI a _ g9 d9 F9 x16 hw9.2.1) (cwV 1 hts gX5_supply_X5_succeed rfl rfl rfl (by decide +kernel) ⟨Nat.le_of_ble_eq_true rfl, Nat.le_of_ble_eq_true rfl⟩) (va_recv hK hP (ci := 5) (q0 := 3) rfl rfl) rfl hl.1 rfl (Nat.le_of_ble_eq_true rfl) dX5_supply_135 ⟨Nat.le_of_ble_eq_true rfl, Nat.le_of_ble_eq_true rfl⟩ (fun r17 u17 H locs hw17 hP hD hS => ?_)
      obtain ⟨g17, d17, F17⟩ := u17
      obtain ⟨rfl, hw17⟩ := hw17
      have hP : va_P D vwCl (cw cI a g17 d17 F17) H := hP
      have hD : va_D A (cw cI a g17 d17 F17) := hD
      exact W.iret (v := 0) hx hb hr (fun t ht hW => ⟨⟨_, (g17, d17, F17), rfl, ⟨trivial, (CI_mono (by omega) hw17.1), (hw17.2.1.trans hw9.2.2.1), (hw17.2.2.1.trans hw9.2.2.2.1), (hw17.2.2.2.trans hw9.2.2.2.2)⟩, by rw [ht]; exact hP, hD⟩, hS.F ht⟩) hS.2.2 dX5_supply_138
    · refine lv_bipush (v := 8) hx hb dX5_supply_69 (by decide) ?_
      exact W.iret (v := 8) hx hb hr (fun t ht hW => ⟨⟨_, (g9, d9, F9), rfl, ⟨trivial, (CI_mono (by omega) hw9.2.1), hw9.2.2.1, hw9.2.2.2.1, hw9.2.2.2.2⟩, by rw [ht]; exact hP, hD⟩, hS.F ht⟩) hS.2.2 dX5_supply_71
  · refine lv_aload_n hx hb dX5_supply_18 rfl (lv_at hl 0 rfl) ?_
    refine lv_iconst (v := 0) hx hb dX5_supply_19 (by decide) ?_
    refine gc_vi (As := [.int 0]) (rest := []) (w0 := cw cI a (upd g 9 x1) d F) (wc := cw cI a (upd g 9 x1) d F) (wr := []) (wf := wfC cI a) ⟨hx, hb, hml, hown, hts⟩ hKK hok hP hD hS hA [0, 1, 2, 3, 4, 5, 6, 7, 8, 9, 10, 11] [] rfl rfl (by decide) (s_X5_succeed l D cI a _ (upd g 9 x1) d F 0 hI) (cwV 1 hts gX5_supply_X5_succeed rfl rfl rfl (by decide +kernel) ⟨Nat.le_of_ble_eq_true rfl, Nat.le_of_ble_eq_true rfl⟩) (va_recv hK hP (ci := 5) (q0 := 3) rfl rfl) rfl hl.1 rfl (Nat.le_of_ble_eq_true rfl) dX5_supply_20 ⟨Nat.le_of_ble_eq_true rfl, Nat.le_of_ble_eq_true rfl⟩ (fun r18 u18 H locs hw18 hP hD hS => ?_)
    obtain ⟨g18, d18, F18⟩ := u18
    obtain ⟨rfl, hw18⟩ := hw18
    have hP : va_P D vwCl (cw cI a g18 d18 F18) H := hP
    have hD : va_D A (cw cI a g18 d18 F18) := hD
    exact W.iret (v := 0) hx hb hr (fun t ht hW => ⟨⟨_, (g18, d18, F18), rfl, ⟨trivial, (CI_mono (by omega) hw18.1), hw18.2.1, hw18.2.2.1, hw18.2.2.2⟩, by rw [ht]; exact hP, hD⟩, hS.F ht⟩) hS.2.2 dX5_supply_23
set_option maxHeartbeats 4000000 in
set_option maxRecDepth 100000 in
theorem s_X0_emptyWindow (l : Launch) (D : va_G) (cI : ClassId) (a : Nat → Nat) (sz : Nat) (g : Nat → Int32) (d : Nat → UInt64) (F : Nat → Nat → Int32) : Met l yX0_emptyWindow wsX0_emptyWindow ({ frames := 0, cells := 0, slots := 0, locals := 0 }) (gP (KC D cI) D (cw cI a g d F) sz [.ref (a 4)]) (va_Qv (fun (u : SS) => u = (upd (upd (upd g 19 0) 20 0) 21 0, d, F)) (gB D (wfC cI a) (va_A (cw cI a g d F) sz)) (va_A (cw cI a g d F) sz)) 0 0 (va_A (cw cI a g d F) sz) := by
  refine Met.ofW (cc := cX0_emptyWindow) (maxL := 1) (ret := none) (by decide) rfl ?_
  intro p e s m args below meth c s₁ B hml hv
  obtain ⟨rfl, hsz, hP, hD0, hKK⟩ := hv
  have hx := B.exec
  have hb := B.bytes
  have hr := B.returns
  have hts := atoms_spec (ws := wsX0_emptyWindow) B.pre
  have hown : s.vm.findClass RX0 = some m.cls := findClass_of_methodNamed B.named
  have hlocks := B.notSynchronized
  subst hsz
  have hK := hKK.1
  have hok := KC_ok D cI
  have hD := hD0.self (sz := s.heap.size)
  generalize hAe : va_A (cw cI a g d F) s.heap.size = A at hD ⊢
  have hi0 : ∀ w ∈ wsX00, w ∈ wsX0_emptyWindow := fun w h => List.mem_cons_of_mem _ (List.mem_append_right _ h)
  have hA : ∀ q : Nat, s.heap.size ≤ q → A q := fun q h => by rw [← hAe]; exact Or.inr h
  have hS : va_S A s.heap s.heap [] := va_S.rf
  have hP : va_P D vwCl (cw cI a g d F) s.heap := hP
  have hl := lv_entry ([.ref ((a 4))]) (n := 1) (Nat.le_of_ble_eq_true rfl)
  rw [lg_entry_eq]
  generalize (lg_sl ([.ref ((a 4))]) ++ List.replicate (1 - (lg_sl ([.ref ((a 4))])).length) Slot.unset).toArray = ls at hl ⊢
  have hl : lv_has ls 1 [(0, .ref ((a 4)))] := hl
  refine lv_aload_n hx hb dX0_emptyWindow_0 rfl (lv_at hl 0 rfl) ?_
  refine lv_iconst (v := 0) hx hb dX0_emptyWindow_1 (by decide) ?_
  refine va_put (D := D) (ci := 0) (v := .int 0) (ty := .int) (C := RX0) (T := TX0) (N := 15) hx hb hts hi0 tyX0 tyX0_ok nmX0 hown hK hP hD hS 4 rfl rfl 12 (by decide) (hts (.fieldLink RX0 55 "GuardedCalls$Breaker" "calls" "I") (by decide +kernel)) (fun _ h9 => h9) rfl (by decide +kernel) rfl rfl (Nat.le_of_ble_eq_true rfl) dX0_emptyWindow_2 (fun H locs hP hD hS => ?_)
  have hP : va_P D vwCl (cw cI a (upd g 19 0) d F) H := hP
  have hD : va_D A (cw cI a (upd g 19 0) d F) := hD
  refine lv_aload_n hx hb dX0_emptyWindow_5 rfl (lv_at hl 0 rfl) ?_
  refine lv_iconst (v := 0) hx hb dX0_emptyWindow_6 (by decide) ?_
  refine va_put (D := D) (ci := 0) (v := .int 0) (ty := .int) (C := RX0) (T := TX0) (N := 15) hx hb hts hi0 tyX0 tyX0_ok nmX0 hown hK hP hD hS 4 rfl rfl 13 (by decide) (hts (.fieldLink RX0 58 "GuardedCalls$Breaker" "failedCalls" "I") (by decide +kernel)) (fun _ h9 => h9) rfl (by decide +kernel) rfl rfl (Nat.le_of_ble_eq_true rfl) dX0_emptyWindow_7 (fun H locs hP hD hS => ?_)
  have hP : va_P D vwCl (cw cI a (upd (upd g 19 0) 20 0) d F) H := hP
  have hD : va_D A (cw cI a (upd (upd g 19 0) 20 0) d F) := hD
  refine lv_aload_n hx hb dX0_emptyWindow_10 rfl (lv_at hl 0 rfl) ?_
  refine lv_iconst (v := 0) hx hb dX0_emptyWindow_11 (by decide) ?_
  refine va_put (D := D) (ci := 0) (v := .int 0) (ty := .int) (C := RX0) (T := TX0) (N := 15) hx hb hts hi0 tyX0 tyX0_ok nmX0 hown hK hP hD hS 4 rfl rfl 14 (by decide) (hts (.fieldLink RX0 61 "GuardedCalls$Breaker" "slowCalls" "I") (by decide +kernel)) (fun _ h9 => h9) rfl (by decide +kernel) rfl rfl (Nat.le_of_ble_eq_true rfl) dX0_emptyWindow_12 (fun H locs hP hD hS => ?_)
  have hP : va_P D vwCl (cw cI a (upd (upd (upd g 19 0) 20 0) 21 0) d F) H := hP
  have hD : va_D A (cw cI a (upd (upd (upd g 19 0) 20 0) 21 0) d F) := hD
  exact W.vret hx hb hr (fun t ht hW => ⟨⟨(upd (upd (upd g 19 0) 20 0) 21 0, d, F), rfl, rfl, by rw [ht]; exact hP, hD⟩, hS.F ht⟩) hS.2.2 dX0_emptyWindow_15
set_option maxHeartbeats 4000000 in
set_option maxRecDepth 100000 in
theorem s_X0_open (l : Launch) (D : va_G) (cI : ClassId) (a : Nat → Nat) (sz : Nat) (g : Nat → Int32) (d : Nat → UInt64) (F : Nat → Nat → Int32) {bd : Nat} (hI : CI bd g d F) : Met l yX0_open wsX0_open ({ frames := 1, cells := 0, slots := 0, locals := 21 }) (gP (KC D cI) D (cw cI a g d F) sz [.ref (a 4)]) (va_Qv (fun (u : SS) => (True) ∧ CP (bd) g F u) (gB D (wfC cI a) (va_A (cw cI a g d F) sz)) (va_A (cw cI a g d F) sz)) 0 0 (va_A (cw cI a g d F) sz) := by
  refine Met.ofW (cc := cX0_open) (maxL := 1) (ret := none) (by decide) rfl ?_
  intro p e s m args below meth c s₁ B hml hv
  obtain ⟨rfl, hsz, hP, hD0, hKK⟩ := hv
  have hx := B.exec
  have hb := B.bytes
  have hr := B.returns
  have hts := atoms_spec (ws := wsX0_open) B.pre
  have hown : s.vm.findClass RX0 = some m.cls := findClass_of_methodNamed B.named
  have hlocks := B.notSynchronized
  subst hsz
  have hK := hKK.1
  have hok := KC_ok D cI
  have hD := hD0.self (sz := s.heap.size)
  generalize hAe : va_A (cw cI a g d F) s.heap.size = A at hD ⊢
  have hi0 : ∀ w ∈ wsX00, w ∈ wsX0_open := fun w h => List.mem_cons_of_mem _ (List.mem_append_left _ (List.mem_append_left _ (List.mem_append_right _ h)))
  have hi1 : ∀ w ∈ wsX10, w ∈ wsX0_open := fun w h => List.mem_cons_of_mem _ (List.mem_append_left _ (List.mem_append_right _ h))
  have hi2 : ∀ w ∈ wsX20, w ∈ wsX0_open := fun w h => List.mem_cons_of_mem _ (List.mem_append_right _ h)
  have hA : ∀ q : Nat, s.heap.size ≤ q → A q := fun q h => by rw [← hAe]; exact Or.inr h
  have hS : va_S A s.heap s.heap [] := va_S.rf
  have hP : va_P D vwCl (cw cI a g d F) s.heap := hP
  have hl := lv_entry ([.ref ((a 4))]) (n := 1) (Nat.le_of_ble_eq_true rfl)
  rw [lg_entry_eq]
  generalize (lg_sl ([.ref ((a 4))]) ++ List.replicate (1 - (lg_sl ([.ref ((a 4))])).length) Slot.unset).toArray = ls at hl ⊢
  have hl : lv_has ls 1 [(0, .ref ((a 4)))] := hl
  refine lv_aload_n hx hb dX0_open_0 rfl (lv_at hl 0 rfl) ?_
  refine lv_iconst (v := 1) hx hb dX0_open_1 (by decide) ?_
  refine va_put (D := D) (ci := 0) (v := .int 1) (ty := .int) (C := RX0) (T := TX0) (N := 15) hx hb hts hi0 tyX0 tyX0_ok nmX0 hown hK hP hD hS 4 rfl rfl 9 (by decide) (hts (.fieldLink RX0 46 "GuardedCalls$Breaker" "state" "I") (by decide +kernel)) (fun _ h9 => h9) rfl (by decide +kernel) rfl rfl (Nat.le_of_ble_eq_true rfl) dX0_open_2 (fun H locs hP hD hS => ?_)
  have hP : va_P D vwCl (cw cI a (upd g 16 1) d F) H := hP
  have hD : va_D A (cw cI a (upd g 16 1) d F) := hD
  refine lv_aload_n hx hb dX0_open_5 rfl (lv_at hl 0 rfl) ?_
  refine lv_aload_n hx hb dX0_open_6 rfl (lv_at hl 0 rfl) ?_
  refine va_get (D := D) (ci := 0) (v := .ref ((a 2))) (C := RX0) (T := TX0) (N := 15) hx hb hts hi0 hown hK hP 4 rfl rfl 0 (by decide) (hts (.fieldLink RX0 9 "GuardedCalls$Breaker" "clock" "LGuardedCalls$Clock;") (by decide +kernel)) (fun _ h9 => h9) rfl dX0_open_7 ?_
  refine va_getN (D := D) (ci := 1) (v := .int ((g 6))) (C := RX1) (T := TX1) (N := 2) hx hb hts hi1 hown hK hP 2 rfl rfl 1 (by decide) (nw_use hKK.2 (w := .fieldLinkNest "GuardedCalls$Breaker" 64 "GuardedCalls$Clock" "now" "I" "GuardedCalls") (by decide +kernel)) (fun _ h9 => h9) rfl dX0_open_10 ?_
  refine va_put (D := D) (ci := 0) (v := .int ((g 6))) (ty := .int) (C := RX0) (T := TX0) (N := 15) hx hb hts hi0 tyX0 tyX0_ok nmX0 hown hK hP hD hS 4 rfl rfl 10 (by decide) (hts (.fieldLink RX0 49 "GuardedCalls$Breaker" "openedAt" "I") (by decide +kernel)) (fun _ h9 => h9) rfl (by decide +kernel) rfl rfl (Nat.le_of_ble_eq_true rfl) dX0_open_13 (fun H locs hP hD hS => ?_)
  have hP : va_P D vwCl (cw cI a (upd (upd g 16 1) 17 ((g 6))) d F) H := hP
  have hD : va_D A (cw cI a (upd (upd g 16 1) 17 ((g 6))) d F) := hD
  refine lv_aload_n hx hb dX0_open_16 rfl (lv_at hl 0 rfl) ?_
  refine gc_vv (As := []) (rest := []) (w0 := cw cI a (upd (upd g 16 1) 17 ((g 6))) d F) (wc := cw cI a (upd (upd g 16 1) 17 ((g 6))) d F) (wr := []) (wf := wfC cI a) ⟨hx, hb, hml, hown, hts⟩ hKK hok hP hD hS hA [0, 1, 2, 3, 4, 5, 6, 7, 8, 9, 10, 11] [] rfl rfl (by decide) (s_X0_emptyWindow l D cI a _ (upd (upd g 16 1) 17 ((g 6))) d F) (cwV 0 hts gX0_open_X0_emptyWindow rfl rfl rfl (by decide +kernel) ⟨Nat.le_of_ble_eq_true rfl, Nat.le_of_ble_eq_true rfl⟩) (va_recv hK hP (ci := 0) (q0 := 4) rfl rfl) rfl hl.1 rfl (Nat.le_of_ble_eq_true rfl) dX0_open_17 ⟨Nat.le_of_ble_eq_true rfl, Nat.le_of_ble_eq_true rfl⟩ (fun u1 H locs hw1 hP hD hS => ?_)
  subst hw1
  have hP : va_P D vwCl (cw cI a (upd (upd (upd (upd (upd g 16 1) 17 ((g 6))) 19 0) 20 0) 21 0) d F) H := hP
  have hD : va_D A (cw cI a (upd (upd (upd (upd (upd g 16 1) 17 ((g 6))) 19 0) 20 0) 21 0) d F) := hD
  refine lv_aload_n hx hb dX0_open_20 rfl (lv_at hl 0 rfl) ?_
  refine va_get (D := D) (ci := 0) (v := .ref ((a 1))) (C := RX0) (T := TX0) (N := 15) hx hb hts hi0 hown hK hP 4 rfl rfl 1 (by decide) (hts (.fieldLink RX0 15 "GuardedCalls$Breaker" "events" "LGuardedCalls$Events;") (by decide +kernel)) (fun _ h9 => h9) rfl dX0_open_21 ?_
  refine lv_iconst (v := 2) hx hb dX0_open_24 (by decide) ?_
  refine gc_vv (As := [.int 2]) (rest := []) (w0 := cw cI a (upd (upd (upd (upd (upd g 16 1) 17 ((g 6))) 19 0) 20 0) 21 0) d F) (wc := cw cI a (upd (upd (upd (upd (upd g 16 1) 17 ((g 6))) 19 0) 20 0) 21 0) d F) (wr := []) (wf := wfC cI a) ⟨hx, hb, hml, hown, hts⟩ hKK hok hP hD hS hA [0, 1, 2, 3, 4, 5, 6, 7, 8, 9, 10, 11] [] rfl rfl (by decide) (s_X2_add l D cI a _ (upd (upd (upd (upd (upd g 16 1) 17 ((g 6))) 19 0) 20 0) 21 0) d F 2 hI) (cwV 1 hts gX0_open_X2_add rfl rfl rfl (by decide +kernel) ⟨Nat.le_of_ble_eq_true rfl, Nat.le_of_ble_eq_true rfl⟩) (va_recv hK hP (ci := 2) (q0 := 1) rfl rfl) rfl hl.1 rfl (Nat.le_of_ble_eq_true rfl) dX0_open_25 ⟨Nat.le_of_ble_eq_true rfl, Nat.le_of_ble_eq_true rfl⟩ (fun u2 H locs hw2 hP hD hS => ?_)
  obtain ⟨g2, d2, F2⟩ := u2
  have hP : va_P D vwCl (cw cI a g2 d2 F2) H := hP
  have hD : va_D A (cw cI a g2 d2 F2) := hD
  exact W.vret hx hb hr (fun t ht hW => ⟨⟨(g2, d2, F2), rfl, ⟨trivial, hw2.2.1, hw2.2.2.1, hw2.2.2.2.1, hw2.2.2.2.2⟩, by rw [ht]; exact hP, hD⟩, hS.F ht⟩) hS.2.2 dX0_open_28
set_option maxHeartbeats 4000000 in
set_option maxRecDepth 100000 in
theorem s_X0_halfOpen (l : Launch) (D : va_G) (cI : ClassId) (a : Nat → Nat) (sz : Nat) (g : Nat → Int32) (d : Nat → UInt64) (F : Nat → Nat → Int32) {bd : Nat} (hI : CI bd g d F) : Met l yX0_halfOpen wsX0_halfOpen ({ frames := 1, cells := 0, slots := 0, locals := 21 }) (gP (KC D cI) D (cw cI a g d F) sz [.ref (a 4)]) (va_Qv (fun (u : SS) => (True) ∧ CP (bd) g F u) (gB D (wfC cI a) (va_A (cw cI a g d F) sz)) (va_A (cw cI a g d F) sz)) 0 0 (va_A (cw cI a g d F) sz) := by
  refine Met.ofW (cc := cX0_halfOpen) (maxL := 1) (ret := none) (by decide) rfl ?_
  intro p e s m args below meth c s₁ B hml hv
  obtain ⟨rfl, hsz, hP, hD0, hKK⟩ := hv
  have hx := B.exec
  have hb := B.bytes
  have hr := B.returns
  have hts := atoms_spec (ws := wsX0_halfOpen) B.pre
  have hown : s.vm.findClass RX0 = some m.cls := findClass_of_methodNamed B.named
  have hlocks := B.notSynchronized
  subst hsz
  have hK := hKK.1
  have hok := KC_ok D cI
  have hD := hD0.self (sz := s.heap.size)
  generalize hAe : va_A (cw cI a g d F) s.heap.size = A at hD ⊢
  have hi0 : ∀ w ∈ wsX00, w ∈ wsX0_halfOpen := fun w h => List.mem_cons_of_mem _ (List.mem_append_left _ (List.mem_append_right _ h))
  have hi2 : ∀ w ∈ wsX20, w ∈ wsX0_halfOpen := fun w h => List.mem_cons_of_mem _ (List.mem_append_right _ h)
  have hA : ∀ q : Nat, s.heap.size ≤ q → A q := fun q h => by rw [← hAe]; exact Or.inr h
  have hS : va_S A s.heap s.heap [] := va_S.rf
  have hP : va_P D vwCl (cw cI a g d F) s.heap := hP
  have hl := lv_entry ([.ref ((a 4))]) (n := 1) (Nat.le_of_ble_eq_true rfl)
  rw [lg_entry_eq]
  generalize (lg_sl ([.ref ((a 4))]) ++ List.replicate (1 - (lg_sl ([.ref ((a 4))])).length) Slot.unset).toArray = ls at hl ⊢
  have hl : lv_has ls 1 [(0, .ref ((a 4)))] := hl
  refine lv_aload_n hx hb dX0_halfOpen_0 rfl (lv_at hl 0 rfl) ?_
  refine lv_iconst (v := 2) hx hb dX0_halfOpen_1 (by decide) ?_
  refine va_put (D := D) (ci := 0) (v := .int 2) (ty := .int) (C := RX0) (T := TX0) (N := 15) hx hb hts hi0 tyX0 tyX0_ok nmX0 hown hK hP hD hS 4 rfl rfl 9 (by decide) (hts (.fieldLink RX0 46 "GuardedCalls$Breaker" "state" "I") (by decide +kernel)) (fun _ h9 => h9) rfl (by decide +kernel) rfl rfl (Nat.le_of_ble_eq_true rfl) dX0_halfOpen_2 (fun H locs hP hD hS => ?_)
  have hP : va_P D vwCl (cw cI a (upd g 16 2) d F) H := hP
  have hD : va_D A (cw cI a (upd g 16 2) d F) := hD
  refine lv_aload_n hx hb dX0_halfOpen_5 rfl (lv_at hl 0 rfl) ?_
  refine lv_iconst (v := 0) hx hb dX0_halfOpen_6 (by decide) ?_
  refine va_put (D := D) (ci := 0) (v := .int 0) (ty := .int) (C := RX0) (T := TX0) (N := 15) hx hb hts hi0 tyX0 tyX0_ok nmX0 hown hK hP hD hS 4 rfl rfl 11 (by decide) (hts (.fieldLink RX0 52 "GuardedCalls$Breaker" "letIn" "I") (by decide +kernel)) (fun _ h9 => h9) rfl (by decide +kernel) rfl rfl (Nat.le_of_ble_eq_true rfl) dX0_halfOpen_7 (fun H locs hP hD hS => ?_)
  have hP : va_P D vwCl (cw cI a (upd (upd g 16 2) 18 0) d F) H := hP
  have hD : va_D A (cw cI a (upd (upd g 16 2) 18 0) d F) := hD
  refine lv_aload_n hx hb dX0_halfOpen_10 rfl (lv_at hl 0 rfl) ?_
  refine gc_vv (As := []) (rest := []) (w0 := cw cI a (upd (upd g 16 2) 18 0) d F) (wc := cw cI a (upd (upd g 16 2) 18 0) d F) (wr := []) (wf := wfC cI a) ⟨hx, hb, hml, hown, hts⟩ hKK hok hP hD hS hA [0, 1, 2, 3, 4, 5, 6, 7, 8, 9, 10, 11] [] rfl rfl (by decide) (s_X0_emptyWindow l D cI a _ (upd (upd g 16 2) 18 0) d F) (cwV 0 hts gX0_halfOpen_X0_emptyWindow rfl rfl rfl (by decide +kernel) ⟨Nat.le_of_ble_eq_true rfl, Nat.le_of_ble_eq_true rfl⟩) (va_recv hK hP (ci := 0) (q0 := 4) rfl rfl) rfl hl.1 rfl (Nat.le_of_ble_eq_true rfl) dX0_halfOpen_11 ⟨Nat.le_of_ble_eq_true rfl, Nat.le_of_ble_eq_true rfl⟩ (fun u1 H locs hw1 hP hD hS => ?_)
  subst hw1
  have hP : va_P D vwCl (cw cI a (upd (upd (upd (upd (upd g 16 2) 18 0) 19 0) 20 0) 21 0) d F) H := hP
  have hD : va_D A (cw cI a (upd (upd (upd (upd (upd g 16 2) 18 0) 19 0) 20 0) 21 0) d F) := hD
  refine lv_aload_n hx hb dX0_halfOpen_14 rfl (lv_at hl 0 rfl) ?_
  refine va_get (D := D) (ci := 0) (v := .ref ((a 1))) (C := RX0) (T := TX0) (N := 15) hx hb hts hi0 hown hK hP 4 rfl rfl 1 (by decide) (hts (.fieldLink RX0 15 "GuardedCalls$Breaker" "events" "LGuardedCalls$Events;") (by decide +kernel)) (fun _ h9 => h9) rfl dX0_halfOpen_15 ?_
  refine lv_iconst (v := 3) hx hb dX0_halfOpen_18 (by decide) ?_
  refine gc_vv (As := [.int 3]) (rest := []) (w0 := cw cI a (upd (upd (upd (upd (upd g 16 2) 18 0) 19 0) 20 0) 21 0) d F) (wc := cw cI a (upd (upd (upd (upd (upd g 16 2) 18 0) 19 0) 20 0) 21 0) d F) (wr := []) (wf := wfC cI a) ⟨hx, hb, hml, hown, hts⟩ hKK hok hP hD hS hA [0, 1, 2, 3, 4, 5, 6, 7, 8, 9, 10, 11] [] rfl rfl (by decide) (s_X2_add l D cI a _ (upd (upd (upd (upd (upd g 16 2) 18 0) 19 0) 20 0) 21 0) d F 3 hI) (cwV 1 hts gX0_halfOpen_X2_add rfl rfl rfl (by decide +kernel) ⟨Nat.le_of_ble_eq_true rfl, Nat.le_of_ble_eq_true rfl⟩) (va_recv hK hP (ci := 2) (q0 := 1) rfl rfl) rfl hl.1 rfl (Nat.le_of_ble_eq_true rfl) dX0_halfOpen_19 ⟨Nat.le_of_ble_eq_true rfl, Nat.le_of_ble_eq_true rfl⟩ (fun u2 H locs hw2 hP hD hS => ?_)
  obtain ⟨g2, d2, F2⟩ := u2
  have hP : va_P D vwCl (cw cI a g2 d2 F2) H := hP
  have hD : va_D A (cw cI a g2 d2 F2) := hD
  exact W.vret hx hb hr (fun t ht hW => ⟨⟨(g2, d2, F2), rfl, ⟨trivial, hw2.2.1, hw2.2.2.1, hw2.2.2.2.1, hw2.2.2.2.2⟩, by rw [ht]; exact hP, hD⟩, hS.F ht⟩) hS.2.2 dX0_halfOpen_22
set_option maxHeartbeats 4000000 in
set_option maxRecDepth 100000 in
theorem s_X0_close (l : Launch) (D : va_G) (cI : ClassId) (a : Nat → Nat) (sz : Nat) (g : Nat → Int32) (d : Nat → UInt64) (F : Nat → Nat → Int32) {bd : Nat} (hI : CI bd g d F) : Met l yX0_close wsX0_close ({ frames := 1, cells := 0, slots := 0, locals := 21 }) (gP (KC D cI) D (cw cI a g d F) sz [.ref (a 4)]) (va_Qv (fun (u : SS) => (True) ∧ CP (bd) g F u) (gB D (wfC cI a) (va_A (cw cI a g d F) sz)) (va_A (cw cI a g d F) sz)) 0 0 (va_A (cw cI a g d F) sz) := by
  refine Met.ofW (cc := cX0_close) (maxL := 1) (ret := none) (by decide) rfl ?_
  intro p e s m args below meth c s₁ B hml hv
  obtain ⟨rfl, hsz, hP, hD0, hKK⟩ := hv
  have hx := B.exec
  have hb := B.bytes
  have hr := B.returns
  have hts := atoms_spec (ws := wsX0_close) B.pre
  have hown : s.vm.findClass RX0 = some m.cls := findClass_of_methodNamed B.named
  have hlocks := B.notSynchronized
  subst hsz
  have hK := hKK.1
  have hok := KC_ok D cI
  have hD := hD0.self (sz := s.heap.size)
  generalize hAe : va_A (cw cI a g d F) s.heap.size = A at hD ⊢
  have hi0 : ∀ w ∈ wsX00, w ∈ wsX0_close := fun w h => List.mem_cons_of_mem _ (List.mem_append_left _ (List.mem_append_right _ h))
  have hi2 : ∀ w ∈ wsX20, w ∈ wsX0_close := fun w h => List.mem_cons_of_mem _ (List.mem_append_right _ h)
  have hA : ∀ q : Nat, s.heap.size ≤ q → A q := fun q h => by rw [← hAe]; exact Or.inr h
  have hS : va_S A s.heap s.heap [] := va_S.rf
  have hP : va_P D vwCl (cw cI a g d F) s.heap := hP
  have hl := lv_entry ([.ref ((a 4))]) (n := 1) (Nat.le_of_ble_eq_true rfl)
  rw [lg_entry_eq]
  generalize (lg_sl ([.ref ((a 4))]) ++ List.replicate (1 - (lg_sl ([.ref ((a 4))])).length) Slot.unset).toArray = ls at hl ⊢
  have hl : lv_has ls 1 [(0, .ref ((a 4)))] := hl
  refine lv_aload_n hx hb dX0_close_0 rfl (lv_at hl 0 rfl) ?_
  refine lv_iconst (v := 0) hx hb dX0_close_1 (by decide) ?_
  refine va_put (D := D) (ci := 0) (v := .int 0) (ty := .int) (C := RX0) (T := TX0) (N := 15) hx hb hts hi0 tyX0 tyX0_ok nmX0 hown hK hP hD hS 4 rfl rfl 9 (by decide) (hts (.fieldLink RX0 46 "GuardedCalls$Breaker" "state" "I") (by decide +kernel)) (fun _ h9 => h9) rfl (by decide +kernel) rfl rfl (Nat.le_of_ble_eq_true rfl) dX0_close_2 (fun H locs hP hD hS => ?_)
  have hP : va_P D vwCl (cw cI a (upd g 16 0) d F) H := hP
  have hD : va_D A (cw cI a (upd g 16 0) d F) := hD
  refine lv_aload_n hx hb dX0_close_5 rfl (lv_at hl 0 rfl) ?_
  refine gc_vv (As := []) (rest := []) (w0 := cw cI a (upd g 16 0) d F) (wc := cw cI a (upd g 16 0) d F) (wr := []) (wf := wfC cI a) ⟨hx, hb, hml, hown, hts⟩ hKK hok hP hD hS hA [0, 1, 2, 3, 4, 5, 6, 7, 8, 9, 10, 11] [] rfl rfl (by decide) (s_X0_emptyWindow l D cI a _ (upd g 16 0) d F) (cwV 0 hts gX0_close_X0_emptyWindow rfl rfl rfl (by decide +kernel) ⟨Nat.le_of_ble_eq_true rfl, Nat.le_of_ble_eq_true rfl⟩) (va_recv hK hP (ci := 0) (q0 := 4) rfl rfl) rfl hl.1 rfl (Nat.le_of_ble_eq_true rfl) dX0_close_6 ⟨Nat.le_of_ble_eq_true rfl, Nat.le_of_ble_eq_true rfl⟩ (fun u1 H locs hw1 hP hD hS => ?_)
  subst hw1
  have hP : va_P D vwCl (cw cI a (upd (upd (upd (upd g 16 0) 19 0) 20 0) 21 0) d F) H := hP
  have hD : va_D A (cw cI a (upd (upd (upd (upd g 16 0) 19 0) 20 0) 21 0) d F) := hD
  refine lv_aload_n hx hb dX0_close_9 rfl (lv_at hl 0 rfl) ?_
  refine va_get (D := D) (ci := 0) (v := .ref ((a 1))) (C := RX0) (T := TX0) (N := 15) hx hb hts hi0 hown hK hP 4 rfl rfl 1 (by decide) (hts (.fieldLink RX0 15 "GuardedCalls$Breaker" "events" "LGuardedCalls$Events;") (by decide +kernel)) (fun _ h9 => h9) rfl dX0_close_10 ?_
  refine lv_iconst (v := 4) hx hb dX0_close_13 (by decide) ?_
  refine gc_vv (As := [.int 4]) (rest := []) (w0 := cw cI a (upd (upd (upd (upd g 16 0) 19 0) 20 0) 21 0) d F) (wc := cw cI a (upd (upd (upd (upd g 16 0) 19 0) 20 0) 21 0) d F) (wr := []) (wf := wfC cI a) ⟨hx, hb, hml, hown, hts⟩ hKK hok hP hD hS hA [0, 1, 2, 3, 4, 5, 6, 7, 8, 9, 10, 11] [] rfl rfl (by decide) (s_X2_add l D cI a _ (upd (upd (upd (upd g 16 0) 19 0) 20 0) 21 0) d F 4 hI) (cwV 1 hts gX0_close_X2_add rfl rfl rfl (by decide +kernel) ⟨Nat.le_of_ble_eq_true rfl, Nat.le_of_ble_eq_true rfl⟩) (va_recv hK hP (ci := 2) (q0 := 1) rfl rfl) rfl hl.1 rfl (Nat.le_of_ble_eq_true rfl) dX0_close_14 ⟨Nat.le_of_ble_eq_true rfl, Nat.le_of_ble_eq_true rfl⟩ (fun u2 H locs hw2 hP hD hS => ?_)
  obtain ⟨g2, d2, F2⟩ := u2
  have hP : va_P D vwCl (cw cI a g2 d2 F2) H := hP
  have hD : va_D A (cw cI a g2 d2 F2) := hD
  exact W.vret hx hb hr (fun t ht hW => ⟨⟨(g2, d2, F2), rfl, ⟨trivial, hw2.2.1, hw2.2.2.1, hw2.2.2.2.1, hw2.2.2.2.2⟩, by rw [ht]; exact hP, hD⟩, hS.F ht⟩) hS.2.2 dX0_close_17
set_option maxHeartbeats 4000000 in
set_option maxRecDepth 100000 in
theorem s_X0_letsIn (l : Launch) (D : va_G) (cI : ClassId) (a : Nat → Nat) (sz : Nat) (g : Nat → Int32) (d : Nat → UInt64) (F : Nat → Nat → Int32) {bd : Nat} (hI : CI bd g d F) : Met l yX0_letsIn wsX0_letsIn ({ frames := 2, cells := 0, slots := 0, locals := 41 }) (gP (KC D cI) D (cw cI a g d F) sz [.ref (a 4)]) (va_Qi (fun (r : Int32) (u : SS) => (r = 0 ∨ r = 1) ∧ CP (bd) g F u) (gB D (wfC cI a) (va_A (cw cI a g d F) sz)) (va_A (cw cI a g d F) sz)) 0 0 (va_A (cw cI a g d F) sz) := by
  refine Met.ofW (cc := cX0_letsIn) (maxL := 1) (ret := (some .boolean)) (by decide) rfl ?_
  intro p e s m args below meth c s₁ B hml hv
  obtain ⟨rfl, hsz, hP, hD0, hKK⟩ := hv
  have hx := B.exec
  have hb := B.bytes
  have hr := B.returns
  have hts := atoms_spec (ws := wsX0_letsIn) B.pre
  have hown : s.vm.findClass RX0 = some m.cls := findClass_of_methodNamed B.named
  have hlocks := B.notSynchronized
  subst hsz
  have hK := hKK.1
  have hok := KC_ok D cI
  have hD := hD0.self (sz := s.heap.size)
  generalize hAe : va_A (cw cI a g d F) s.heap.size = A at hD ⊢
  have hi0 : ∀ w ∈ wsX00, w ∈ wsX0_letsIn := fun w h => List.mem_cons_of_mem _ (List.mem_append_left _ (List.mem_append_left _ (List.mem_append_right _ h)))
  have hi1 : ∀ w ∈ wsX10, w ∈ wsX0_letsIn := fun w h => List.mem_cons_of_mem _ (List.mem_append_left _ (List.mem_append_right _ h))
  have hi2 : ∀ w ∈ wsX20, w ∈ wsX0_letsIn := fun w h => List.mem_cons_of_mem _ (List.mem_append_right _ h)
  have hA : ∀ q : Nat, s.heap.size ≤ q → A q := fun q h => by rw [← hAe]; exact Or.inr h
  have hS : va_S A s.heap s.heap [] := va_S.rf
  have hP : va_P D vwCl (cw cI a g d F) s.heap := hP
  have hl := lv_entry ([.ref ((a 4))]) (n := 1) (Nat.le_of_ble_eq_true rfl)
  rw [lg_entry_eq]
  generalize (lg_sl ([.ref ((a 4))]) ++ List.replicate (1 - (lg_sl ([.ref ((a 4))])).length) Slot.unset).toArray = ls at hl ⊢
  have hl : lv_has ls 1 [(0, .ref ((a 4)))] := hl
  refine lv_aload_n hx hb dX0_letsIn_0 rfl (lv_at hl 0 rfl) ?_
  refine va_get (D := D) (ci := 0) (v := .int ((g 16))) (C := RX0) (T := TX0) (N := 15) hx hb hts hi0 hown hK hP 4 rfl rfl 9 (by decide) (hts (.fieldLink RX0 46 "GuardedCalls$Breaker" "state" "I") (by decide +kernel)) (fun _ h9 => h9) rfl dX0_letsIn_1 ?_
  refine lv_iconst (v := 1) hx hb dX0_letsIn_4 (by decide) ?_
  refine lv_icmp_ne (tgt := 31) hx hb dX0_letsIn_5 (by decide) (fun c1 => ?_) (fun c1 => ?_)
  · refine lv_aload_n hx hb dX0_letsIn_31 rfl (lv_at hl 0 rfl) ?_
    refine va_get (D := D) (ci := 0) (v := .int ((g 16))) (C := RX0) (T := TX0) (N := 15) hx hb hts hi0 hown hK hP 4 rfl rfl 9 (by decide) (hts (.fieldLink RX0 46 "GuardedCalls$Breaker" "state" "I") (by decide +kernel)) (fun _ h9 => h9) rfl dX0_letsIn_32 ?_
    refine lv_iconst (v := 1) hx hb dX0_letsIn_35 (by decide) ?_
    refine lv_icmp_eq (tgt := 58) hx hb dX0_letsIn_36 (by decide) (fun c2 => ?_) (fun c2 => ?_)
    · refine lv_aload_n hx hb dX0_letsIn_58 rfl (lv_at hl 0 rfl) ?_
      refine va_get (D := D) (ci := 0) (v := .ref ((a 1))) (C := RX0) (T := TX0) (N := 15) hx hb hts hi0 hown hK hP 4 rfl rfl 1 (by decide) (hts (.fieldLink RX0 15 "GuardedCalls$Breaker" "events" "LGuardedCalls$Events;") (by decide +kernel)) (fun _ h9 => h9) rfl dX0_letsIn_59 ?_
      refine lv_iconst (v := 1) hx hb dX0_letsIn_62 (by decide) ?_
      refine gc_vv (As := [.int 1]) (rest := []) (w0 := cw cI a g d F) (wc := cw cI a g d F) (wr := []) (wf := wfC cI a) ⟨hx, hb, hml, hown, hts⟩ hKK hok hP hD hS hA [0, 1, 2, 3, 4, 5, 6, 7, 8, 9, 10, 11] [] rfl rfl (by decide) (s_X2_add l D cI a _ g d F 1 hI) (cwV 1 hts gX0_letsIn_X2_add rfl rfl rfl (by decide +kernel) ⟨Nat.le_of_ble_eq_true rfl, Nat.le_of_ble_eq_true rfl⟩) (va_recv hK hP (ci := 2) (q0 := 1) rfl rfl) rfl hl.1 rfl (Nat.le_of_ble_eq_true rfl) dX0_letsIn_63 ⟨Nat.le_of_ble_eq_true rfl, Nat.le_of_ble_eq_true rfl⟩ (fun u3 H locs hw3 hP hD hS => ?_)
      obtain ⟨g3, d3, F3⟩ := u3
      have hP : va_P D vwCl (cw cI a g3 d3 F3) H := hP
      have hD : va_D A (cw cI a g3 d3 F3) := hD
      refine lv_iconst (v := 0) hx hb dX0_letsIn_66 (by decide) ?_
      exact W.zret (v := 0) hx hb hr (rfl) (fun t ht hW => ⟨⟨_, (g3, d3, F3), rfl, ⟨Or.inl rfl, hw3.2.1, hw3.2.2.1, hw3.2.2.2.1, hw3.2.2.2.2⟩, by rw [ht]; exact hP, hD⟩, hS.F ht⟩) hS.2.2 dX0_letsIn_67
    · refine lv_aload_n hx hb dX0_letsIn_39 rfl (lv_at hl 0 rfl) ?_
      refine va_get (D := D) (ci := 0) (v := .int ((g 16))) (C := RX0) (T := TX0) (N := 15) hx hb hts hi0 hown hK hP 4 rfl rfl 9 (by decide) (hts (.fieldLink RX0 46 "GuardedCalls$Breaker" "state" "I") (by decide +kernel)) (fun _ h9 => h9) rfl dX0_letsIn_40 ?_
      refine lv_iconst (v := 2) hx hb dX0_letsIn_43 (by decide) ?_
      refine lv_icmp_ne (tgt := 68) hx hb dX0_letsIn_44 (by decide) (fun c4 => ?_) (fun c4 => ?_)
      · refine lv_aload_n hx hb dX0_letsIn_68 rfl (lv_at hl 0 rfl) ?_
        refine va_get (D := D) (ci := 0) (v := .int ((g 16))) (C := RX0) (T := TX0) (N := 15) hx hb hts hi0 hown hK hP 4 rfl rfl 9 (by decide) (hts (.fieldLink RX0 46 "GuardedCalls$Breaker" "state" "I") (by decide +kernel)) (fun _ h9 => h9) rfl dX0_letsIn_69 ?_
        refine lv_iconst (v := 2) hx hb dX0_letsIn_72 (by decide) ?_
        refine lv_icmp_ne (tgt := 86) hx hb dX0_letsIn_73 (by decide) (fun c5 => ?_) (fun c5 => ?_)
        · refine lv_iconst (v := 1) hx hb dX0_letsIn_86 (by decide) ?_
          exact W.zret (v := 1) hx hb hr (rfl) (fun t ht hW => ⟨⟨_, (g, d, F), rfl, ⟨Or.inr rfl, hI, rfl, rfl, rfl⟩, by rw [ht]; exact hP, hD⟩, hS.F ht⟩) hS.2.2 dX0_letsIn_87
        · refine lv_aload_n hx hb dX0_letsIn_76 rfl (lv_at hl 0 rfl) ?_
          refine lv_dup hx hb dX0_letsIn_77 rfl ?_
          refine va_get (D := D) (ci := 0) (v := .int ((g 18))) (C := RX0) (T := TX0) (N := 15) hx hb hts hi0 hown hK hP 4 rfl rfl 11 (by decide) (hts (.fieldLink RX0 52 "GuardedCalls$Breaker" "letIn" "I") (by decide +kernel)) (fun _ h9 => h9) rfl dX0_letsIn_78 ?_
          refine lv_iconst (v := 1) hx hb dX0_letsIn_81 (by decide) ?_
          refine lv_iadd hx hb dX0_letsIn_82 ?_
          refine lv_topi (fun x6 e6 => ?_)
          refine va_put (D := D) (ci := 0) (v := .int x6) (ty := .int) (C := RX0) (T := TX0) (N := 15) hx hb hts hi0 tyX0 tyX0_ok nmX0 hown hK hP hD hS 4 rfl rfl 11 (by decide) (hts (.fieldLink RX0 52 "GuardedCalls$Breaker" "letIn" "I") (by decide +kernel)) (fun _ h9 => h9) rfl (by decide +kernel) rfl rfl (Nat.le_of_ble_eq_true rfl) dX0_letsIn_83 (fun H locs hP hD hS => ?_)
          have hP : va_P D vwCl (cw cI a (upd g 18 x6) d F) H := hP
          have hD : va_D A (cw cI a (upd g 18 x6) d F) := hD
          refine lv_iconst (v := 1) hx hb dX0_letsIn_86 (by decide) ?_
          exact W.zret (v := 1) hx hb hr (rfl) (fun t ht hW => ⟨⟨_, (upd g 18 x6, d, F), rfl, ⟨Or.inr rfl, hI, rfl, rfl, rfl⟩, by rw [ht]; exact hP, hD⟩, hS.F ht⟩) hS.2.2 dX0_letsIn_87
      · refine lv_aload_n hx hb dX0_letsIn_47 rfl (lv_at hl 0 rfl) ?_
        refine va_get (D := D) (ci := 0) (v := .int ((g 18))) (C := RX0) (T := TX0) (N := 15) hx hb hts hi0 hown hK hP 4 rfl rfl 11 (by decide) (hts (.fieldLink RX0 52 "GuardedCalls$Breaker" "letIn" "I") (by decide +kernel)) (fun _ h9 => h9) rfl dX0_letsIn_48 ?_
        refine lv_aload_n hx hb dX0_letsIn_51 rfl (lv_at hl 0 rfl) ?_
        refine va_get (D := D) (ci := 0) (v := .int ((g 14))) (C := RX0) (T := TX0) (N := 15) hx hb hts hi0 hown hK hP 4 rfl rfl 5 (by decide) (hts (.fieldLink RX0 29 "GuardedCalls$Breaker" "trials" "I") (by decide +kernel)) (fun _ h9 => h9) rfl dX0_letsIn_52 ?_
        refine lv_icmp_lt (tgt := 68) hx hb dX0_letsIn_55 (by decide) (fun c7 => ?_) (fun c7 => ?_)
        · refine lv_aload_n hx hb dX0_letsIn_68 rfl (lv_at hl 0 rfl) ?_
          refine va_get (D := D) (ci := 0) (v := .int ((g 16))) (C := RX0) (T := TX0) (N := 15) hx hb hts hi0 hown hK hP 4 rfl rfl 9 (by decide) (hts (.fieldLink RX0 46 "GuardedCalls$Breaker" "state" "I") (by decide +kernel)) (fun _ h9 => h9) rfl dX0_letsIn_69 ?_
          refine lv_iconst (v := 2) hx hb dX0_letsIn_72 (by decide) ?_
          refine lv_icmp_ne (tgt := 86) hx hb dX0_letsIn_73 (by decide) (fun c8 => ?_) (fun c8 => ?_)
          · refine lv_iconst (v := 1) hx hb dX0_letsIn_86 (by decide) ?_
            exact W.zret (v := 1) hx hb hr (rfl) (fun t ht hW => ⟨⟨_, (g, d, F), rfl, ⟨Or.inr rfl, hI, rfl, rfl, rfl⟩, by rw [ht]; exact hP, hD⟩, hS.F ht⟩) hS.2.2 dX0_letsIn_87
          · refine lv_aload_n hx hb dX0_letsIn_76 rfl (lv_at hl 0 rfl) ?_
            refine lv_dup hx hb dX0_letsIn_77 rfl ?_
            refine va_get (D := D) (ci := 0) (v := .int ((g 18))) (C := RX0) (T := TX0) (N := 15) hx hb hts hi0 hown hK hP 4 rfl rfl 11 (by decide) (hts (.fieldLink RX0 52 "GuardedCalls$Breaker" "letIn" "I") (by decide +kernel)) (fun _ h9 => h9) rfl dX0_letsIn_78 ?_
            refine lv_iconst (v := 1) hx hb dX0_letsIn_81 (by decide) ?_
            refine lv_iadd hx hb dX0_letsIn_82 ?_
            refine lv_topi (fun x9 e9 => ?_)
            refine va_put (D := D) (ci := 0) (v := .int x9) (ty := .int) (C := RX0) (T := TX0) (N := 15) hx hb hts hi0 tyX0 tyX0_ok nmX0 hown hK hP hD hS 4 rfl rfl 11 (by decide) (hts (.fieldLink RX0 52 "GuardedCalls$Breaker" "letIn" "I") (by decide +kernel)) (fun _ h9 => h9) rfl (by decide +kernel) rfl rfl (Nat.le_of_ble_eq_true rfl) dX0_letsIn_83 (fun H locs hP hD hS => ?_)
            have hP : va_P D vwCl (cw cI a (upd g 18 x9) d F) H := hP
            have hD : va_D A (cw cI a (upd g 18 x9) d F) := hD
            refine lv_iconst (v := 1) hx hb dX0_letsIn_86 (by decide) ?_
            exact W.zret (v := 1) hx hb hr (rfl) (fun t ht hW => ⟨⟨_, (upd g 18 x9, d, F), rfl, ⟨Or.inr rfl, hI, rfl, rfl, rfl⟩, by rw [ht]; exact hP, hD⟩, hS.F ht⟩) hS.2.2 dX0_letsIn_87
        · refine lv_aload_n hx hb dX0_letsIn_58 rfl (lv_at hl 0 rfl) ?_
          refine va_get (D := D) (ci := 0) (v := .ref ((a 1))) (C := RX0) (T := TX0) (N := 15) hx hb hts hi0 hown hK hP 4 rfl rfl 1 (by decide) (hts (.fieldLink RX0 15 "GuardedCalls$Breaker" "events" "LGuardedCalls$Events;") (by decide +kernel)) (fun _ h9 => h9) rfl dX0_letsIn_59 ?_
          refine lv_iconst (v := 1) hx hb dX0_letsIn_62 (by decide) ?_
          refine gc_vv (As := [.int 1]) (rest := []) (w0 := cw cI a g d F) (wc := cw cI a g d F) (wr := []) (wf := wfC cI a) ⟨hx, hb, hml, hown, hts⟩ hKK hok hP hD hS hA [0, 1, 2, 3, 4, 5, 6, 7, 8, 9, 10, 11] [] rfl rfl (by decide) (s_X2_add l D cI a _ g d F 1 hI) (cwV 1 hts gX0_letsIn_X2_add rfl rfl rfl (by decide +kernel) ⟨Nat.le_of_ble_eq_true rfl, Nat.le_of_ble_eq_true rfl⟩) (va_recv hK hP (ci := 2) (q0 := 1) rfl rfl) rfl hl.1 rfl (Nat.le_of_ble_eq_true rfl) dX0_letsIn_63 ⟨Nat.le_of_ble_eq_true rfl, Nat.le_of_ble_eq_true rfl⟩ (fun u10 H locs hw10 hP hD hS => ?_)
          obtain ⟨g10, d10, F10⟩ := u10
          have hP : va_P D vwCl (cw cI a g10 d10 F10) H := hP
          have hD : va_D A (cw cI a g10 d10 F10) := hD
          refine lv_iconst (v := 0) hx hb dX0_letsIn_66 (by decide) ?_
          exact W.zret (v := 0) hx hb hr (rfl) (fun t ht hW => ⟨⟨_, (g10, d10, F10), rfl, ⟨Or.inl rfl, hw10.2.1, hw10.2.2.1, hw10.2.2.2.1, hw10.2.2.2.2⟩, by rw [ht]; exact hP, hD⟩, hS.F ht⟩) hS.2.2 dX0_letsIn_67
  · refine lv_aload_n hx hb dX0_letsIn_8 rfl (lv_at hl 0 rfl) ?_
    refine va_get (D := D) (ci := 0) (v := .ref ((a 2))) (C := RX0) (T := TX0) (N := 15) hx hb hts hi0 hown hK hP 4 rfl rfl 0 (by decide) (hts (.fieldLink RX0 9 "GuardedCalls$Breaker" "clock" "LGuardedCalls$Clock;") (by decide +kernel)) (fun _ h9 => h9) rfl dX0_letsIn_9 ?_
    refine va_getN (D := D) (ci := 1) (v := .int ((g 6))) (C := RX1) (T := TX1) (N := 2) hx hb hts hi1 hown hK hP 2 rfl rfl 1 (by decide) (nw_use hKK.2 (w := .fieldLinkNest "GuardedCalls$Breaker" 64 "GuardedCalls$Clock" "now" "I" "GuardedCalls") (by decide +kernel)) (fun _ h9 => h9) rfl dX0_letsIn_12 ?_
    refine lv_aload_n hx hb dX0_letsIn_15 rfl (lv_at hl 0 rfl) ?_
    refine va_get (D := D) (ci := 0) (v := .int ((g 17))) (C := RX0) (T := TX0) (N := 15) hx hb hts hi0 hown hK hP 4 rfl rfl 10 (by decide) (hts (.fieldLink RX0 49 "GuardedCalls$Breaker" "openedAt" "I") (by decide +kernel)) (fun _ h9 => h9) rfl dX0_letsIn_16 ?_
    refine lv_isub hx hb dX0_letsIn_19 ?_
    refine lv_topi (fun x11 e11 => ?_)
    refine lv_aload_n hx hb dX0_letsIn_20 rfl (lv_at hl 0 rfl) ?_
    refine va_get (D := D) (ci := 0) (v := .int ((g 13))) (C := RX0) (T := TX0) (N := 15) hx hb hts hi0 hown hK hP 4 rfl rfl 4 (by decide) (hts (.fieldLink RX0 26 "GuardedCalls$Breaker" "rest" "I") (by decide +kernel)) (fun _ h9 => h9) rfl dX0_letsIn_21 ?_
    refine lv_icmp_lt (tgt := 31) hx hb dX0_letsIn_24 (by decide) (fun c12 => ?_) (fun c12 => ?_)
    · refine lv_aload_n hx hb dX0_letsIn_31 rfl (lv_at hl 0 rfl) ?_
      refine va_get (D := D) (ci := 0) (v := .int ((g 16))) (C := RX0) (T := TX0) (N := 15) hx hb hts hi0 hown hK hP 4 rfl rfl 9 (by decide) (hts (.fieldLink RX0 46 "GuardedCalls$Breaker" "state" "I") (by decide +kernel)) (fun _ h9 => h9) rfl dX0_letsIn_32 ?_
      refine lv_iconst (v := 1) hx hb dX0_letsIn_35 (by decide) ?_
      refine lv_icmp_eq (tgt := 58) hx hb dX0_letsIn_36 (by decide) (fun c13 => ?_) (fun c13 => ?_)
      · refine lv_aload_n hx hb dX0_letsIn_58 rfl (lv_at hl 0 rfl) ?_
        refine va_get (D := D) (ci := 0) (v := .ref ((a 1))) (C := RX0) (T := TX0) (N := 15) hx hb hts hi0 hown hK hP 4 rfl rfl 1 (by decide) (hts (.fieldLink RX0 15 "GuardedCalls$Breaker" "events" "LGuardedCalls$Events;") (by decide +kernel)) (fun _ h9 => h9) rfl dX0_letsIn_59 ?_
        refine lv_iconst (v := 1) hx hb dX0_letsIn_62 (by decide) ?_
        refine gc_vv (As := [.int 1]) (rest := []) (w0 := cw cI a g d F) (wc := cw cI a g d F) (wr := []) (wf := wfC cI a) ⟨hx, hb, hml, hown, hts⟩ hKK hok hP hD hS hA [0, 1, 2, 3, 4, 5, 6, 7, 8, 9, 10, 11] [] rfl rfl (by decide) (s_X2_add l D cI a _ g d F 1 hI) (cwV 1 hts gX0_letsIn_X2_add rfl rfl rfl (by decide +kernel) ⟨Nat.le_of_ble_eq_true rfl, Nat.le_of_ble_eq_true rfl⟩) (va_recv hK hP (ci := 2) (q0 := 1) rfl rfl) rfl hl.1 rfl (Nat.le_of_ble_eq_true rfl) dX0_letsIn_63 ⟨Nat.le_of_ble_eq_true rfl, Nat.le_of_ble_eq_true rfl⟩ (fun u14 H locs hw14 hP hD hS => ?_)
        obtain ⟨g14, d14, F14⟩ := u14
        have hP : va_P D vwCl (cw cI a g14 d14 F14) H := hP
        have hD : va_D A (cw cI a g14 d14 F14) := hD
        refine lv_iconst (v := 0) hx hb dX0_letsIn_66 (by decide) ?_
        exact W.zret (v := 0) hx hb hr (rfl) (fun t ht hW => ⟨⟨_, (g14, d14, F14), rfl, ⟨Or.inl rfl, hw14.2.1, hw14.2.2.1, hw14.2.2.2.1, hw14.2.2.2.2⟩, by rw [ht]; exact hP, hD⟩, hS.F ht⟩) hS.2.2 dX0_letsIn_67
      · refine lv_aload_n hx hb dX0_letsIn_39 rfl (lv_at hl 0 rfl) ?_
        refine va_get (D := D) (ci := 0) (v := .int ((g 16))) (C := RX0) (T := TX0) (N := 15) hx hb hts hi0 hown hK hP 4 rfl rfl 9 (by decide) (hts (.fieldLink RX0 46 "GuardedCalls$Breaker" "state" "I") (by decide +kernel)) (fun _ h9 => h9) rfl dX0_letsIn_40 ?_
        refine lv_iconst (v := 2) hx hb dX0_letsIn_43 (by decide) ?_
        refine lv_icmp_ne (tgt := 68) hx hb dX0_letsIn_44 (by decide) (fun c15 => ?_) (fun c15 => ?_)
        · refine lv_aload_n hx hb dX0_letsIn_68 rfl (lv_at hl 0 rfl) ?_
          refine va_get (D := D) (ci := 0) (v := .int ((g 16))) (C := RX0) (T := TX0) (N := 15) hx hb hts hi0 hown hK hP 4 rfl rfl 9 (by decide) (hts (.fieldLink RX0 46 "GuardedCalls$Breaker" "state" "I") (by decide +kernel)) (fun _ h9 => h9) rfl dX0_letsIn_69 ?_
          refine lv_iconst (v := 2) hx hb dX0_letsIn_72 (by decide) ?_
          refine lv_icmp_ne (tgt := 86) hx hb dX0_letsIn_73 (by decide) (fun c16 => ?_) (fun c16 => ?_)
          · refine lv_iconst (v := 1) hx hb dX0_letsIn_86 (by decide) ?_
            exact W.zret (v := 1) hx hb hr (rfl) (fun t ht hW => ⟨⟨_, (g, d, F), rfl, ⟨Or.inr rfl, hI, rfl, rfl, rfl⟩, by rw [ht]; exact hP, hD⟩, hS.F ht⟩) hS.2.2 dX0_letsIn_87
          · refine lv_aload_n hx hb dX0_letsIn_76 rfl (lv_at hl 0 rfl) ?_
            refine lv_dup hx hb dX0_letsIn_77 rfl ?_
            refine va_get (D := D) (ci := 0) (v := .int ((g 18))) (C := RX0) (T := TX0) (N := 15) hx hb hts hi0 hown hK hP 4 rfl rfl 11 (by decide) (hts (.fieldLink RX0 52 "GuardedCalls$Breaker" "letIn" "I") (by decide +kernel)) (fun _ h9 => h9) rfl dX0_letsIn_78 ?_
            refine lv_iconst (v := 1) hx hb dX0_letsIn_81 (by decide) ?_
            refine lv_iadd hx hb dX0_letsIn_82 ?_
            refine lv_topi (fun x17 e17 => ?_)
            refine va_put (D := D) (ci := 0) (v := .int x17) (ty := .int) (C := RX0) (T := TX0) (N := 15) hx hb hts hi0 tyX0 tyX0_ok nmX0 hown hK hP hD hS 4 rfl rfl 11 (by decide) (hts (.fieldLink RX0 52 "GuardedCalls$Breaker" "letIn" "I") (by decide +kernel)) (fun _ h9 => h9) rfl (by decide +kernel) rfl rfl (Nat.le_of_ble_eq_true rfl) dX0_letsIn_83 (fun H locs hP hD hS => ?_)
            have hP : va_P D vwCl (cw cI a (upd g 18 x17) d F) H := hP
            have hD : va_D A (cw cI a (upd g 18 x17) d F) := hD
            refine lv_iconst (v := 1) hx hb dX0_letsIn_86 (by decide) ?_
            exact W.zret (v := 1) hx hb hr (rfl) (fun t ht hW => ⟨⟨_, (upd g 18 x17, d, F), rfl, ⟨Or.inr rfl, hI, rfl, rfl, rfl⟩, by rw [ht]; exact hP, hD⟩, hS.F ht⟩) hS.2.2 dX0_letsIn_87
        · refine lv_aload_n hx hb dX0_letsIn_47 rfl (lv_at hl 0 rfl) ?_
          refine va_get (D := D) (ci := 0) (v := .int ((g 18))) (C := RX0) (T := TX0) (N := 15) hx hb hts hi0 hown hK hP 4 rfl rfl 11 (by decide) (hts (.fieldLink RX0 52 "GuardedCalls$Breaker" "letIn" "I") (by decide +kernel)) (fun _ h9 => h9) rfl dX0_letsIn_48 ?_
          refine lv_aload_n hx hb dX0_letsIn_51 rfl (lv_at hl 0 rfl) ?_
          refine va_get (D := D) (ci := 0) (v := .int ((g 14))) (C := RX0) (T := TX0) (N := 15) hx hb hts hi0 hown hK hP 4 rfl rfl 5 (by decide) (hts (.fieldLink RX0 29 "GuardedCalls$Breaker" "trials" "I") (by decide +kernel)) (fun _ h9 => h9) rfl dX0_letsIn_52 ?_
          refine lv_icmp_lt (tgt := 68) hx hb dX0_letsIn_55 (by decide) (fun c18 => ?_) (fun c18 => ?_)
          · refine lv_aload_n hx hb dX0_letsIn_68 rfl (lv_at hl 0 rfl) ?_
            refine va_get (D := D) (ci := 0) (v := .int ((g 16))) (C := RX0) (T := TX0) (N := 15) hx hb hts hi0 hown hK hP 4 rfl rfl 9 (by decide) (hts (.fieldLink RX0 46 "GuardedCalls$Breaker" "state" "I") (by decide +kernel)) (fun _ h9 => h9) rfl dX0_letsIn_69 ?_
            refine lv_iconst (v := 2) hx hb dX0_letsIn_72 (by decide) ?_
            refine lv_icmp_ne (tgt := 86) hx hb dX0_letsIn_73 (by decide) (fun c19 => ?_) (fun c19 => ?_)
            · refine lv_iconst (v := 1) hx hb dX0_letsIn_86 (by decide) ?_
              exact W.zret (v := 1) hx hb hr (rfl) (fun t ht hW => ⟨⟨_, (g, d, F), rfl, ⟨Or.inr rfl, hI, rfl, rfl, rfl⟩, by rw [ht]; exact hP, hD⟩, hS.F ht⟩) hS.2.2 dX0_letsIn_87
            · refine lv_aload_n hx hb dX0_letsIn_76 rfl (lv_at hl 0 rfl) ?_
              refine lv_dup hx hb dX0_letsIn_77 rfl ?_
              refine va_get (D := D) (ci := 0) (v := .int ((g 18))) (C := RX0) (T := TX0) (N := 15) hx hb hts hi0 hown hK hP 4 rfl rfl 11 (by decide) (hts (.fieldLink RX0 52 "GuardedCalls$Breaker" "letIn" "I") (by decide +kernel)) (fun _ h9 => h9) rfl dX0_letsIn_78 ?_
              refine lv_iconst (v := 1) hx hb dX0_letsIn_81 (by decide) ?_
              refine lv_iadd hx hb dX0_letsIn_82 ?_
              refine lv_topi (fun x20 e20 => ?_)
              refine va_put (D := D) (ci := 0) (v := .int x20) (ty := .int) (C := RX0) (T := TX0) (N := 15) hx hb hts hi0 tyX0 tyX0_ok nmX0 hown hK hP hD hS 4 rfl rfl 11 (by decide) (hts (.fieldLink RX0 52 "GuardedCalls$Breaker" "letIn" "I") (by decide +kernel)) (fun _ h9 => h9) rfl (by decide +kernel) rfl rfl (Nat.le_of_ble_eq_true rfl) dX0_letsIn_83 (fun H locs hP hD hS => ?_)
              have hP : va_P D vwCl (cw cI a (upd g 18 x20) d F) H := hP
              have hD : va_D A (cw cI a (upd g 18 x20) d F) := hD
              refine lv_iconst (v := 1) hx hb dX0_letsIn_86 (by decide) ?_
              exact W.zret (v := 1) hx hb hr (rfl) (fun t ht hW => ⟨⟨_, (upd g 18 x20, d, F), rfl, ⟨Or.inr rfl, hI, rfl, rfl, rfl⟩, by rw [ht]; exact hP, hD⟩, hS.F ht⟩) hS.2.2 dX0_letsIn_87
          · refine lv_aload_n hx hb dX0_letsIn_58 rfl (lv_at hl 0 rfl) ?_
            refine va_get (D := D) (ci := 0) (v := .ref ((a 1))) (C := RX0) (T := TX0) (N := 15) hx hb hts hi0 hown hK hP 4 rfl rfl 1 (by decide) (hts (.fieldLink RX0 15 "GuardedCalls$Breaker" "events" "LGuardedCalls$Events;") (by decide +kernel)) (fun _ h9 => h9) rfl dX0_letsIn_59 ?_
            refine lv_iconst (v := 1) hx hb dX0_letsIn_62 (by decide) ?_
            refine gc_vv (As := [.int 1]) (rest := []) (w0 := cw cI a g d F) (wc := cw cI a g d F) (wr := []) (wf := wfC cI a) ⟨hx, hb, hml, hown, hts⟩ hKK hok hP hD hS hA [0, 1, 2, 3, 4, 5, 6, 7, 8, 9, 10, 11] [] rfl rfl (by decide) (s_X2_add l D cI a _ g d F 1 hI) (cwV 1 hts gX0_letsIn_X2_add rfl rfl rfl (by decide +kernel) ⟨Nat.le_of_ble_eq_true rfl, Nat.le_of_ble_eq_true rfl⟩) (va_recv hK hP (ci := 2) (q0 := 1) rfl rfl) rfl hl.1 rfl (Nat.le_of_ble_eq_true rfl) dX0_letsIn_63 ⟨Nat.le_of_ble_eq_true rfl, Nat.le_of_ble_eq_true rfl⟩ (fun u21 H locs hw21 hP hD hS => ?_)
            obtain ⟨g21, d21, F21⟩ := u21
            have hP : va_P D vwCl (cw cI a g21 d21 F21) H := hP
            have hD : va_D A (cw cI a g21 d21 F21) := hD
            refine lv_iconst (v := 0) hx hb dX0_letsIn_66 (by decide) ?_
            exact W.zret (v := 0) hx hb hr (rfl) (fun t ht hW => ⟨⟨_, (g21, d21, F21), rfl, ⟨Or.inl rfl, hw21.2.1, hw21.2.2.1, hw21.2.2.2.1, hw21.2.2.2.2⟩, by rw [ht]; exact hP, hD⟩, hS.F ht⟩) hS.2.2 dX0_letsIn_67
    · refine lv_aload_n hx hb dX0_letsIn_27 rfl (lv_at hl 0 rfl) ?_
      refine gc_vv (As := []) (rest := []) (w0 := cw cI a g d F) (wc := cw cI a g d F) (wr := []) (wf := wfC cI a) ⟨hx, hb, hml, hown, hts⟩ hKK hok hP hD hS hA [0, 1, 2, 3, 4, 5, 6, 7, 8, 9, 10, 11] [] rfl rfl (by decide) (s_X0_halfOpen l D cI a _ g d F hI) (cwV 0 hts gX0_letsIn_X0_halfOpen rfl rfl rfl (by decide +kernel) ⟨Nat.le_of_ble_eq_true rfl, Nat.le_of_ble_eq_true rfl⟩) (va_recv hK hP (ci := 0) (q0 := 4) rfl rfl) rfl hl.1 rfl (Nat.le_of_ble_eq_true rfl) dX0_letsIn_28 ⟨Nat.le_of_ble_eq_true rfl, Nat.le_of_ble_eq_true rfl⟩ (fun u22 H locs hw22 hP hD hS => ?_)
      obtain ⟨g22, d22, F22⟩ := u22
      have hP : va_P D vwCl (cw cI a g22 d22 F22) H := hP
      have hD : va_D A (cw cI a g22 d22 F22) := hD
      refine lv_aload_n hx hb dX0_letsIn_31 rfl (lv_at hl 0 rfl) ?_
      refine va_get (D := D) (ci := 0) (v := .int ((g22 16))) (C := RX0) (T := TX0) (N := 15) hx hb hts hi0 hown hK hP 4 rfl rfl 9 (by decide) (hts (.fieldLink RX0 46 "GuardedCalls$Breaker" "state" "I") (by decide +kernel)) (fun _ h9 => h9) rfl dX0_letsIn_32 ?_
      refine lv_iconst (v := 1) hx hb dX0_letsIn_35 (by decide) ?_
      refine lv_icmp_eq (tgt := 58) hx hb dX0_letsIn_36 (by decide) (fun c23 => ?_) (fun c23 => ?_)
      · refine lv_aload_n hx hb dX0_letsIn_58 rfl (lv_at hl 0 rfl) ?_
        refine va_get (D := D) (ci := 0) (v := .ref ((a 1))) (C := RX0) (T := TX0) (N := 15) hx hb hts hi0 hown hK hP 4 rfl rfl 1 (by decide) (hts (.fieldLink RX0 15 "GuardedCalls$Breaker" "events" "LGuardedCalls$Events;") (by decide +kernel)) (fun _ h9 => h9) rfl dX0_letsIn_59 ?_
        refine lv_iconst (v := 1) hx hb dX0_letsIn_62 (by decide) ?_
        refine gc_vv (As := [.int 1]) (rest := []) (w0 := cw cI a g22 d22 F22) (wc := cw cI a g22 d22 F22) (wr := []) (wf := wfC cI a) ⟨hx, hb, hml, hown, hts⟩ hKK hok hP hD hS hA [0, 1, 2, 3, 4, 5, 6, 7, 8, 9, 10, 11] [] rfl rfl (by decide) (s_X2_add l D cI a _ g22 d22 F22 1 hw22.2.1) (cwV 1 hts gX0_letsIn_X2_add rfl rfl rfl (by decide +kernel) ⟨Nat.le_of_ble_eq_true rfl, Nat.le_of_ble_eq_true rfl⟩) (va_recv hK hP (ci := 2) (q0 := 1) rfl rfl) rfl hl.1 rfl (Nat.le_of_ble_eq_true rfl) dX0_letsIn_63 ⟨Nat.le_of_ble_eq_true rfl, Nat.le_of_ble_eq_true rfl⟩ (fun u24 H locs hw24 hP hD hS => ?_)
        obtain ⟨g24, d24, F24⟩ := u24
        have hP : va_P D vwCl (cw cI a g24 d24 F24) H := hP
        have hD : va_D A (cw cI a g24 d24 F24) := hD
        refine lv_iconst (v := 0) hx hb dX0_letsIn_66 (by decide) ?_
        exact W.zret (v := 0) hx hb hr (rfl) (fun t ht hW => ⟨⟨_, (g24, d24, F24), rfl, ⟨Or.inl rfl, hw24.2.1, (hw24.2.2.1.trans hw22.2.2.1), (hw24.2.2.2.1.trans hw22.2.2.2.1), (hw24.2.2.2.2.trans hw22.2.2.2.2)⟩, by rw [ht]; exact hP, hD⟩, hS.F ht⟩) hS.2.2 dX0_letsIn_67
      · refine lv_aload_n hx hb dX0_letsIn_39 rfl (lv_at hl 0 rfl) ?_
        refine va_get (D := D) (ci := 0) (v := .int ((g22 16))) (C := RX0) (T := TX0) (N := 15) hx hb hts hi0 hown hK hP 4 rfl rfl 9 (by decide) (hts (.fieldLink RX0 46 "GuardedCalls$Breaker" "state" "I") (by decide +kernel)) (fun _ h9 => h9) rfl dX0_letsIn_40 ?_
        refine lv_iconst (v := 2) hx hb dX0_letsIn_43 (by decide) ?_
        refine lv_icmp_ne (tgt := 68) hx hb dX0_letsIn_44 (by decide) (fun c25 => ?_) (fun c25 => ?_)
        · refine lv_aload_n hx hb dX0_letsIn_68 rfl (lv_at hl 0 rfl) ?_
          refine va_get (D := D) (ci := 0) (v := .int ((g22 16))) (C := RX0) (T := TX0) (N := 15) hx hb hts hi0 hown hK hP 4 rfl rfl 9 (by decide) (hts (.fieldLink RX0 46 "GuardedCalls$Breaker" "state" "I") (by decide +kernel)) (fun _ h9 => h9) rfl dX0_letsIn_69 ?_
          refine lv_iconst (v := 2) hx hb dX0_letsIn_72 (by decide) ?_
          refine lv_icmp_ne (tgt := 86) hx hb dX0_letsIn_73 (by decide) (fun c26 => ?_) (fun c26 => ?_)
          · refine lv_iconst (v := 1) hx hb dX0_letsIn_86 (by decide) ?_
            exact W.zret (v := 1) hx hb hr (rfl) (fun t ht hW => ⟨⟨_, (g22, d22, F22), rfl, ⟨Or.inr rfl, hw22.2.1, hw22.2.2.1, hw22.2.2.2.1, hw22.2.2.2.2⟩, by rw [ht]; exact hP, hD⟩, hS.F ht⟩) hS.2.2 dX0_letsIn_87
          · refine lv_aload_n hx hb dX0_letsIn_76 rfl (lv_at hl 0 rfl) ?_
            refine lv_dup hx hb dX0_letsIn_77 rfl ?_
            refine va_get (D := D) (ci := 0) (v := .int ((g22 18))) (C := RX0) (T := TX0) (N := 15) hx hb hts hi0 hown hK hP 4 rfl rfl 11 (by decide) (hts (.fieldLink RX0 52 "GuardedCalls$Breaker" "letIn" "I") (by decide +kernel)) (fun _ h9 => h9) rfl dX0_letsIn_78 ?_
            refine lv_iconst (v := 1) hx hb dX0_letsIn_81 (by decide) ?_
            refine lv_iadd hx hb dX0_letsIn_82 ?_
            refine lv_topi (fun x27 e27 => ?_)
            refine va_put (D := D) (ci := 0) (v := .int x27) (ty := .int) (C := RX0) (T := TX0) (N := 15) hx hb hts hi0 tyX0 tyX0_ok nmX0 hown hK hP hD hS 4 rfl rfl 11 (by decide) (hts (.fieldLink RX0 52 "GuardedCalls$Breaker" "letIn" "I") (by decide +kernel)) (fun _ h9 => h9) rfl (by decide +kernel) rfl rfl (Nat.le_of_ble_eq_true rfl) dX0_letsIn_83 (fun H locs hP hD hS => ?_)
            have hP : va_P D vwCl (cw cI a (upd g22 18 x27) d22 F22) H := hP
            have hD : va_D A (cw cI a (upd g22 18 x27) d22 F22) := hD
            refine lv_iconst (v := 1) hx hb dX0_letsIn_86 (by decide) ?_
            exact W.zret (v := 1) hx hb hr (rfl) (fun t ht hW => ⟨⟨_, (upd g22 18 x27, d22, F22), rfl, ⟨Or.inr rfl, hw22.2.1, hw22.2.2.1, hw22.2.2.2.1, hw22.2.2.2.2⟩, by rw [ht]; exact hP, hD⟩, hS.F ht⟩) hS.2.2 dX0_letsIn_87
        · refine lv_aload_n hx hb dX0_letsIn_47 rfl (lv_at hl 0 rfl) ?_
          refine va_get (D := D) (ci := 0) (v := .int ((g22 18))) (C := RX0) (T := TX0) (N := 15) hx hb hts hi0 hown hK hP 4 rfl rfl 11 (by decide) (hts (.fieldLink RX0 52 "GuardedCalls$Breaker" "letIn" "I") (by decide +kernel)) (fun _ h9 => h9) rfl dX0_letsIn_48 ?_
          refine lv_aload_n hx hb dX0_letsIn_51 rfl (lv_at hl 0 rfl) ?_
          refine va_get (D := D) (ci := 0) (v := .int ((g22 14))) (C := RX0) (T := TX0) (N := 15) hx hb hts hi0 hown hK hP 4 rfl rfl 5 (by decide) (hts (.fieldLink RX0 29 "GuardedCalls$Breaker" "trials" "I") (by decide +kernel)) (fun _ h9 => h9) rfl dX0_letsIn_52 ?_
          refine lv_icmp_lt (tgt := 68) hx hb dX0_letsIn_55 (by decide) (fun c28 => ?_) (fun c28 => ?_)
          · refine lv_aload_n hx hb dX0_letsIn_68 rfl (lv_at hl 0 rfl) ?_
            refine va_get (D := D) (ci := 0) (v := .int ((g22 16))) (C := RX0) (T := TX0) (N := 15) hx hb hts hi0 hown hK hP 4 rfl rfl 9 (by decide) (hts (.fieldLink RX0 46 "GuardedCalls$Breaker" "state" "I") (by decide +kernel)) (fun _ h9 => h9) rfl dX0_letsIn_69 ?_
            refine lv_iconst (v := 2) hx hb dX0_letsIn_72 (by decide) ?_
            refine lv_icmp_ne (tgt := 86) hx hb dX0_letsIn_73 (by decide) (fun c29 => ?_) (fun c29 => ?_)
            · refine lv_iconst (v := 1) hx hb dX0_letsIn_86 (by decide) ?_
              exact W.zret (v := 1) hx hb hr (rfl) (fun t ht hW => ⟨⟨_, (g22, d22, F22), rfl, ⟨Or.inr rfl, hw22.2.1, hw22.2.2.1, hw22.2.2.2.1, hw22.2.2.2.2⟩, by rw [ht]; exact hP, hD⟩, hS.F ht⟩) hS.2.2 dX0_letsIn_87
            · refine lv_aload_n hx hb dX0_letsIn_76 rfl (lv_at hl 0 rfl) ?_
              refine lv_dup hx hb dX0_letsIn_77 rfl ?_
              refine va_get (D := D) (ci := 0) (v := .int ((g22 18))) (C := RX0) (T := TX0) (N := 15) hx hb hts hi0 hown hK hP 4 rfl rfl 11 (by decide) (hts (.fieldLink RX0 52 "GuardedCalls$Breaker" "letIn" "I") (by decide +kernel)) (fun _ h9 => h9) rfl dX0_letsIn_78 ?_
              refine lv_iconst (v := 1) hx hb dX0_letsIn_81 (by decide) ?_
              refine lv_iadd hx hb dX0_letsIn_82 ?_
              refine lv_topi (fun x30 e30 => ?_)
              refine va_put (D := D) (ci := 0) (v := .int x30) (ty := .int) (C := RX0) (T := TX0) (N := 15) hx hb hts hi0 tyX0 tyX0_ok nmX0 hown hK hP hD hS 4 rfl rfl 11 (by decide) (hts (.fieldLink RX0 52 "GuardedCalls$Breaker" "letIn" "I") (by decide +kernel)) (fun _ h9 => h9) rfl (by decide +kernel) rfl rfl (Nat.le_of_ble_eq_true rfl) dX0_letsIn_83 (fun H locs hP hD hS => ?_)
              have hP : va_P D vwCl (cw cI a (upd g22 18 x30) d22 F22) H := hP
              have hD : va_D A (cw cI a (upd g22 18 x30) d22 F22) := hD
              refine lv_iconst (v := 1) hx hb dX0_letsIn_86 (by decide) ?_
              exact W.zret (v := 1) hx hb hr (rfl) (fun t ht hW => ⟨⟨_, (upd g22 18 x30, d22, F22), rfl, ⟨Or.inr rfl, hw22.2.1, hw22.2.2.1, hw22.2.2.2.1, hw22.2.2.2.2⟩, by rw [ht]; exact hP, hD⟩, hS.F ht⟩) hS.2.2 dX0_letsIn_87
          · refine lv_aload_n hx hb dX0_letsIn_58 rfl (lv_at hl 0 rfl) ?_
            refine va_get (D := D) (ci := 0) (v := .ref ((a 1))) (C := RX0) (T := TX0) (N := 15) hx hb hts hi0 hown hK hP 4 rfl rfl 1 (by decide) (hts (.fieldLink RX0 15 "GuardedCalls$Breaker" "events" "LGuardedCalls$Events;") (by decide +kernel)) (fun _ h9 => h9) rfl dX0_letsIn_59 ?_
            refine lv_iconst (v := 1) hx hb dX0_letsIn_62 (by decide) ?_
            refine gc_vv (As := [.int 1]) (rest := []) (w0 := cw cI a g22 d22 F22) (wc := cw cI a g22 d22 F22) (wr := []) (wf := wfC cI a) ⟨hx, hb, hml, hown, hts⟩ hKK hok hP hD hS hA [0, 1, 2, 3, 4, 5, 6, 7, 8, 9, 10, 11] [] rfl rfl (by decide) (s_X2_add l D cI a _ g22 d22 F22 1 hw22.2.1) (cwV 1 hts gX0_letsIn_X2_add rfl rfl rfl (by decide +kernel) ⟨Nat.le_of_ble_eq_true rfl, Nat.le_of_ble_eq_true rfl⟩) (va_recv hK hP (ci := 2) (q0 := 1) rfl rfl) rfl hl.1 rfl (Nat.le_of_ble_eq_true rfl) dX0_letsIn_63 ⟨Nat.le_of_ble_eq_true rfl, Nat.le_of_ble_eq_true rfl⟩ (fun u31 H locs hw31 hP hD hS => ?_)
            obtain ⟨g31, d31, F31⟩ := u31
            have hP : va_P D vwCl (cw cI a g31 d31 F31) H := hP
            have hD : va_D A (cw cI a g31 d31 F31) := hD
            refine lv_iconst (v := 0) hx hb dX0_letsIn_66 (by decide) ?_
            exact W.zret (v := 0) hx hb hr (rfl) (fun t ht hW => ⟨⟨_, (g31, d31, F31), rfl, ⟨Or.inl rfl, hw31.2.1, (hw31.2.2.1.trans hw22.2.2.1), (hw31.2.2.2.1.trans hw22.2.2.2.1), (hw31.2.2.2.2.trans hw22.2.2.2.2)⟩, by rw [ht]; exact hP, hD⟩, hS.F ht⟩) hS.2.2 dX0_letsIn_67
set_option maxHeartbeats 4000000 in
set_option maxRecDepth 100000 in
theorem s_X0_rate (l : Launch) (D : va_G) (cI : ClassId) (a : Nat → Nat) (sz : Nat) (g : Nat → Int32) (d : Nat → UInt64) (F : Nat → Nat → Int32) (p_k : Int32) {bd : Nat} (hI : CI bd g d F) : Met l yX0_rate wsX0_rate ({ frames := 1, cells := 0, slots := 0, locals := 20 }) (gP (KC D cI) D (cw cI a g d F) sz [.ref (a 4), .int p_k]) (va_Qd (fun (r : UInt64) (u : SS) => u = (g, d, F)) (gB D (wfC cI a) (va_A (cw cI a g d F) sz)) (va_A (cw cI a g d F) sz)) 0 0 (va_A (cw cI a g d F) sz) := by
  refine Met.ofW (cc := cX0_rate) (maxL := 2) (ret := (some .double)) (by decide) rfl ?_
  intro p e s m args below meth c s₁ B hml hv
  obtain ⟨rfl, hsz, hP, hD0, hKK⟩ := hv
  have hx := B.exec
  have hb := B.bytes
  have hr := B.returns
  have hts := atoms_spec (ws := wsX0_rate) B.pre
  have hown : s.vm.findClass RX0 = some m.cls := findClass_of_methodNamed B.named
  have hlocks := B.notSynchronized
  subst hsz
  have hK := hKK.1
  have hok := KC_ok D cI
  have hD := hD0.self (sz := s.heap.size)
  generalize hAe : va_A (cw cI a g d F) s.heap.size = A at hD ⊢
  have hi0 : ∀ w ∈ wsX00, w ∈ wsX0_rate := fun w h => List.mem_cons_of_mem _ (List.mem_append_right _ h)
  have hA : ∀ q : Nat, s.heap.size ≤ q → A q := fun q h => by rw [← hAe]; exact Or.inr h
  have hS : va_S A s.heap s.heap [] := va_S.rf
  have hP : va_P D vwCl (cw cI a g d F) s.heap := hP
  have hl := lv_entry ([.ref ((a 4)), .int p_k]) (n := 2) (Nat.le_of_ble_eq_true rfl)
  rw [lg_entry_eq]
  generalize (lg_sl ([.ref ((a 4)), .int p_k]) ++ List.replicate (2 - (lg_sl ([.ref ((a 4)), .int p_k])).length) Slot.unset).toArray = ls at hl ⊢
  have hl : lv_has ls 2 [(0, .ref ((a 4))), (1, .int p_k)] := hl
  refine lv_aload_n hx hb dX0_rate_0 rfl (lv_at hl 0 rfl) ?_
  refine va_get (D := D) (ci := 0) (v := .int ((g 19))) (C := RX0) (T := TX0) (N := 15) hx hb hts hi0 hown hK hP 4 rfl rfl 12 (by decide) (hts (.fieldLink RX0 55 "GuardedCalls$Breaker" "calls" "I") (by decide +kernel)) (fun _ h9 => h9) rfl dX0_rate_1 ?_
  refine lv_iconst (v := 1) hx hb dX0_rate_4 (by decide) ?_
  refine lv_icmp_ge (tgt := 14) hx hb dX0_rate_5 (by decide) (fun c1 => ?_) (fun c1 => ?_)
  · refine lv_ldc2d (v := 4636737291354636288) hx hb hown (hts (.constantDouble RX0 38 (4636737291354636288)) (by decide +kernel)) dX0_rate_14 ?_
    refine lv_iload_n hx hb dX0_rate_17 rfl (lv_at hl 1 rfl) ?_
    refine gc_si (As := [.int p_k]) (rest := [.double 4636737291354636288]) ⟨hx, hb, hml, hown, hts⟩ hP hD hS hA (c_J6_bitCount_0f7a4 l _ p_k) (va_cwS 1 hts gX0_rate_J6_bitCount_0f7a4 rfl rfl rfl (by decide +kernel) ⟨Nat.le_of_ble_eq_true rfl, Nat.le_of_ble_eq_true rfl⟩) rfl hl.1 rfl (Nat.le_of_ble_eq_true rfl) dX0_rate_18 ⟨Nat.le_of_ble_eq_true rfl, Nat.le_of_ble_eq_true rfl⟩ (fun r2 H locs hw2 hP hS => ?_)
    refine lv_i2d hx hb dX0_rate_21 ?_
    refine lv_topd (fun x3 e3 => ?_)
    refine lv_dmul hx hb dX0_rate_22 (n64_of (by rw [e3]; exact N1_rate _)) ?_
    refine lv_topd (fun x4 e4 => ?_)
    refine lv_aload_n hx hb dX0_rate_23 rfl (lv_at hl 0 rfl) ?_
    refine va_get (D := D) (ci := 0) (v := .int ((g 19))) (C := RX0) (T := TX0) (N := 15) hx hb hts hi0 hown hK hP 4 rfl rfl 12 (by decide) (hts (.fieldLink RX0 55 "GuardedCalls$Breaker" "calls" "I") (by decide +kernel)) (fun _ h9 => h9) rfl dX0_rate_24 ?_
    refine lv_i2d hx hb dX0_rate_27 ?_
    refine lv_topd (fun x5 e5 => ?_)
    refine lv_ddiv hx hb dX0_rate_28 (n64_of (by rw [e5, e4, e3]; exact N1_div (N1_rate _) (nz_of c1))) ?_
    refine lv_topd (fun x6 e6 => ?_)
    exact W.dret (v := x6) hx hb hr (fun t ht hW => ⟨⟨_, (g, d, F), rfl, rfl, by rw [ht]; exact hP, hD⟩, hS.F ht⟩) hS.2.2 dX0_rate_29
  · refine lv_ldc2d (v := 13830554455654793216) hx hb hown (hts (.constantDouble RX0 92 (13830554455654793216)) (by decide +kernel)) dX0_rate_8 ?_
    refine lv_goto (tgt := 29) hx hb dX0_rate_11 (by decide) ?_
    exact W.dret (v := 13830554455654793216) hx hb hr (fun t ht hW => ⟨⟨_, (g, d, F), rfl, rfl, by rw [ht]; exact hP, hD⟩, hS.F ht⟩) hS.2.2 dX0_rate_29
set_option maxHeartbeats 4000000 in
set_option maxRecDepth 100000 in
theorem s_X0_isTripped (l : Launch) (D : va_G) (cI : ClassId) (a : Nat → Nat) (sz : Nat) (g : Nat → Int32) (d : Nat → UInt64) (F : Nat → Nat → Int32) {bd : Nat} (hI : CI bd g d F) : Met l yX0_isTripped wsX0_isTripped ({ frames := 2, cells := 0, slots := 0, locals := 41 }) (gP (KC D cI) D (cw cI a g d F) sz [.ref (a 4)]) (va_Qi (fun (r : Int32) (u : SS) => (r = 0 ∨ r = 1) ∧ CP (bd) g F u) (gB D (wfC cI a) (va_A (cw cI a g d F) sz)) (va_A (cw cI a g d F) sz)) 0 0 (va_A (cw cI a g d F) sz) := by
  refine Met.ofW (cc := cX0_isTripped) (maxL := 1) (ret := (some .boolean)) (by decide) rfl ?_
  intro p e s m args below meth c s₁ B hml hv
  obtain ⟨rfl, hsz, hP, hD0, hKK⟩ := hv
  have hx := B.exec
  have hb := B.bytes
  have hr := B.returns
  have hts := atoms_spec (ws := wsX0_isTripped) B.pre
  have hown : s.vm.findClass RX0 = some m.cls := findClass_of_methodNamed B.named
  have hlocks := B.notSynchronized
  subst hsz
  have hK := hKK.1
  have hok := KC_ok D cI
  have hD := hD0.self (sz := s.heap.size)
  generalize hAe : va_A (cw cI a g d F) s.heap.size = A at hD ⊢
  have hi0 : ∀ w ∈ wsX00, w ∈ wsX0_isTripped := fun w h => List.mem_cons_of_mem _ (List.mem_append_right _ h)
  have hA : ∀ q : Nat, s.heap.size ≤ q → A q := fun q h => by rw [← hAe]; exact Or.inr h
  have hS : va_S A s.heap s.heap [] := va_S.rf
  have hP : va_P D vwCl (cw cI a g d F) s.heap := hP
  have hl := lv_entry ([.ref ((a 4))]) (n := 1) (Nat.le_of_ble_eq_true rfl)
  rw [lg_entry_eq]
  generalize (lg_sl ([.ref ((a 4))]) ++ List.replicate (1 - (lg_sl ([.ref ((a 4))])).length) Slot.unset).toArray = ls at hl ⊢
  have hl : lv_has ls 1 [(0, .ref ((a 4)))] := hl
  refine lv_aload_n hx hb dX0_isTripped_0 rfl (lv_at hl 0 rfl) ?_
  refine lv_aload_n hx hb dX0_isTripped_1 rfl (lv_at hl 0 rfl) ?_
  refine va_get (D := D) (ci := 0) (v := .int ((g 20))) (C := RX0) (T := TX0) (N := 15) hx hb hts hi0 hown hK hP 4 rfl rfl 13 (by decide) (hts (.fieldLink RX0 58 "GuardedCalls$Breaker" "failedCalls" "I") (by decide +kernel)) (fun _ h9 => h9) rfl dX0_isTripped_2 ?_
  refine gc_vd (As := [.int ((g 20))]) (rest := []) (w0 := cw cI a g d F) (wc := cw cI a g d F) (wr := []) (wf := wfC cI a) ⟨hx, hb, hml, hown, hts⟩ hKK hok hP hD hS hA [0, 1, 2, 3, 4, 5, 6, 7, 8, 9, 10, 11] [] rfl rfl (by decide) (s_X0_rate l D cI a _ g d F ((g 20)) hI) (cwV 1 hts gX0_isTripped_X0_rate rfl rfl rfl (by decide +kernel) ⟨Nat.le_of_ble_eq_true rfl, Nat.le_of_ble_eq_true rfl⟩) (va_recv hK hP (ci := 0) (q0 := 4) rfl rfl) rfl hl.1 rfl (Nat.le_of_ble_eq_true rfl) dX0_isTripped_5 ⟨Nat.le_of_ble_eq_true rfl, Nat.le_of_ble_eq_true rfl⟩ (fun r1 u1 H locs hw1 hP hD hS => ?_)
  subst hw1
  have hP : va_P D vwCl (cw cI a g d F) H := hP
  have hD : va_D A (cw cI a g d F) := hD
  refine lv_aload_n hx hb dX0_isTripped_8 rfl (lv_at hl 0 rfl) ?_
  refine va_get (D := D) (ci := 0) (v := .double ((d 0))) (C := RX0) (T := TX0) (N := 15) hx hb hts hi0 hown hK hP 4 rfl rfl 6 (by decide) (hts (.fieldLink RX0 34 "GuardedCalls$Breaker" "failures" "D") (by decide +kernel)) (fun _ h9 => h9) rfl dX0_isTripped_9 ?_
  refine lv_dcmp hx hb dX0_isTripped_12 ?_
  refine lv_if_ge (tgt := 32) hx hb dX0_isTripped_13 (by decide) (fun c2 => ?_) (fun c2 => ?_)
  · refine lv_iconst (v := 1) hx hb dX0_isTripped_32 (by decide) ?_
    refine lv_goto (tgt := 37) hx hb dX0_isTripped_33 (by decide) ?_
    exact W.zret (v := 1) hx hb hr (rfl) (fun t ht hW => ⟨⟨_, (g, d, F), rfl, ⟨Or.inr rfl, hI, rfl, rfl, rfl⟩, by rw [ht]; exact hP, hD⟩, hS.F ht⟩) hS.2.2 dX0_isTripped_37
  · refine lv_aload_n hx hb dX0_isTripped_16 rfl (lv_at hl 0 rfl) ?_
    refine lv_aload_n hx hb dX0_isTripped_17 rfl (lv_at hl 0 rfl) ?_
    refine va_get (D := D) (ci := 0) (v := .int ((g 21))) (C := RX0) (T := TX0) (N := 15) hx hb hts hi0 hown hK hP 4 rfl rfl 14 (by decide) (hts (.fieldLink RX0 61 "GuardedCalls$Breaker" "slowCalls" "I") (by decide +kernel)) (fun _ h9 => h9) rfl dX0_isTripped_18 ?_
    refine gc_vd (As := [.int ((g 21))]) (rest := []) (w0 := cw cI a g d F) (wc := cw cI a g d F) (wr := []) (wf := wfC cI a) ⟨hx, hb, hml, hown, hts⟩ hKK hok hP hD hS hA [0, 1, 2, 3, 4, 5, 6, 7, 8, 9, 10, 11] [] rfl rfl (by decide) (s_X0_rate l D cI a _ g d F ((g 21)) hI) (cwV 1 hts gX0_isTripped_X0_rate rfl rfl rfl (by decide +kernel) ⟨Nat.le_of_ble_eq_true rfl, Nat.le_of_ble_eq_true rfl⟩) (va_recv hK hP (ci := 0) (q0 := 4) rfl rfl) rfl hl.1 rfl (Nat.le_of_ble_eq_true rfl) dX0_isTripped_21 ⟨Nat.le_of_ble_eq_true rfl, Nat.le_of_ble_eq_true rfl⟩ (fun r3 u3 H locs hw3 hP hD hS => ?_)
    subst hw3
    have hP : va_P D vwCl (cw cI a g d F) H := hP
    have hD : va_D A (cw cI a g d F) := hD
    refine lv_aload_n hx hb dX0_isTripped_24 rfl (lv_at hl 0 rfl) ?_
    refine va_get (D := D) (ci := 0) (v := .double ((d 1))) (C := RX0) (T := TX0) (N := 15) hx hb hts hi0 hown hK hP 4 rfl rfl 7 (by decide) (hts (.fieldLink RX0 40 "GuardedCalls$Breaker" "sluggishness" "D") (by decide +kernel)) (fun _ h9 => h9) rfl dX0_isTripped_25 ?_
    refine lv_dcmp hx hb dX0_isTripped_28 ?_
    refine lv_if_lt (tgt := 36) hx hb dX0_isTripped_29 (by decide) (fun c4 => ?_) (fun c4 => ?_)
    · refine lv_iconst (v := 0) hx hb dX0_isTripped_36 (by decide) ?_
      exact W.zret (v := 0) hx hb hr (rfl) (fun t ht hW => ⟨⟨_, (g, d, F), rfl, ⟨Or.inl rfl, hI, rfl, rfl, rfl⟩, by rw [ht]; exact hP, hD⟩, hS.F ht⟩) hS.2.2 dX0_isTripped_37
    · refine lv_iconst (v := 1) hx hb dX0_isTripped_32 (by decide) ?_
      refine lv_goto (tgt := 37) hx hb dX0_isTripped_33 (by decide) ?_
      exact W.zret (v := 1) hx hb hr (rfl) (fun t ht hW => ⟨⟨_, (g, d, F), rfl, ⟨Or.inr rfl, hI, rfl, rfl, rfl⟩, by rw [ht]; exact hP, hD⟩, hS.F ht⟩) hS.2.2 dX0_isTripped_37
set_option maxHeartbeats 4000000 in
set_option maxRecDepth 100000 in
theorem s_X0_remember (l : Launch) (D : va_G) (cI : ClassId) (a : Nat → Nat) (sz : Nat) (g : Nat → Int32) (d : Nat → UInt64) (F : Nat → Nat → Int32) (p_f : Int32) (p_s : Int32) {bd : Nat} (hI : CI bd g d F) : Met l yX0_remember wsX0_remember ({ frames := 0, cells := 0, slots := 0, locals := 0 }) (gP (KC D cI) D (cw cI a g d F) sz [.ref (a 4), .int p_f, .int p_s]) (va_Qv (fun (u : SS) => (True) ∧ CP (bd) g F u) (gB D (wfC cI a) (va_A (cw cI a g d F) sz)) (va_A (cw cI a g d F) sz)) 0 0 (va_A (cw cI a g d F) sz) := by
  refine Met.ofW (cc := cX0_remember) (maxL := 4) (ret := none) (by decide) rfl ?_
  intro p e s m args below meth c s₁ B hml hv
  obtain ⟨rfl, hsz, hP, hD0, hKK⟩ := hv
  have hx := B.exec
  have hb := B.bytes
  have hr := B.returns
  have hts := atoms_spec (ws := wsX0_remember) B.pre
  have hown : s.vm.findClass RX0 = some m.cls := findClass_of_methodNamed B.named
  have hlocks := B.notSynchronized
  subst hsz
  have hK := hKK.1
  have hok := KC_ok D cI
  have hD := hD0.self (sz := s.heap.size)
  generalize hAe : va_A (cw cI a g d F) s.heap.size = A at hD ⊢
  have hi0 : ∀ w ∈ wsX00, w ∈ wsX0_remember := fun w h => List.mem_cons_of_mem _ (List.mem_append_right _ h)
  have hA : ∀ q : Nat, s.heap.size ≤ q → A q := fun q h => by rw [← hAe]; exact Or.inr h
  have hS : va_S A s.heap s.heap [] := va_S.rf
  have hP : va_P D vwCl (cw cI a g d F) s.heap := hP
  have hl := lv_entry ([.ref ((a 4)), .int p_f, .int p_s]) (n := 4) (Nat.le_of_ble_eq_true rfl)
  rw [lg_entry_eq]
  generalize (lg_sl ([.ref ((a 4)), .int p_f, .int p_s]) ++ List.replicate (4 - (lg_sl ([.ref ((a 4)), .int p_f, .int p_s])).length) Slot.unset).toArray = ls at hl ⊢
  have hl : lv_has ls 4 [(0, .ref ((a 4))), (1, .int p_f), (2, .int p_s)] := hl
  refine lv_iconst (v := 1) hx hb dX0_remember_0 (by decide) ?_
  refine lv_aload_n hx hb dX0_remember_1 rfl (lv_at hl 0 rfl) ?_
  refine va_get (D := D) (ci := 0) (v := .int ((g 11))) (C := RX0) (T := TX0) (N := 15) hx hb hts hi0 hown hK hP 4 rfl rfl 2 (by decide) (hts (.fieldLink RX0 19 "GuardedCalls$Breaker" "size" "I") (by decide +kernel)) (fun _ h9 => h9) rfl dX0_remember_2 ?_
  refine lv_ishl hx hb dX0_remember_5 ?_
  refine lv_topi (fun x1 e1 => ?_)
  refine lv_iconst (v := 1) hx hb dX0_remember_6 (by decide) ?_
  refine lv_isub hx hb dX0_remember_7 ?_
  refine lv_topi (fun x2 e2 => ?_)
  refine lv_istore_n (lv' := [(3, .int x2), (0, .ref ((a 4))), (1, .int p_f), (2, .int p_s)]) hx hb dX0_remember_8 rfl hl (by decide) rfl (fun ls hl => ?_)
  refine lv_aload_n hx hb dX0_remember_9 rfl (lv_at hl 1 rfl) ?_
  refine lv_aload_n hx hb dX0_remember_10 rfl (lv_at hl 1 rfl) ?_
  refine va_get (D := D) (ci := 0) (v := .int ((g 20))) (C := RX0) (T := TX0) (N := 15) hx hb hts hi0 hown hK hP 4 rfl rfl 13 (by decide) (hts (.fieldLink RX0 58 "GuardedCalls$Breaker" "failedCalls" "I") (by decide +kernel)) (fun _ h9 => h9) rfl dX0_remember_11 ?_
  refine lv_iconst (v := 1) hx hb dX0_remember_14 (by decide) ?_
  refine lv_ishl hx hb dX0_remember_15 ?_
  refine lv_topi (fun x3 e3 => ?_)
  refine lv_iload_n hx hb dX0_remember_16 rfl (lv_at hl 2 rfl) ?_
  refine lv_if_eq (tgt := 24) hx hb dX0_remember_17 (by decide) (fun c4 => ?_) (fun c4 => ?_)
  · refine lv_iconst (v := 0) hx hb dX0_remember_24 (by decide) ?_
    refine lv_ior hx hb dX0_remember_25 ?_
    refine lv_topi (fun x5 e5 => ?_)
    refine lv_iload_n hx hb dX0_remember_26 rfl (lv_at hl 0 rfl) ?_
    refine lv_iand hx hb dX0_remember_27 ?_
    refine lv_topi (fun x6 e6 => ?_)
    refine va_put (D := D) (ci := 0) (v := .int x6) (ty := .int) (C := RX0) (T := TX0) (N := 15) hx hb hts hi0 tyX0 tyX0_ok nmX0 hown hK hP hD hS 4 rfl rfl 13 (by decide) (hts (.fieldLink RX0 58 "GuardedCalls$Breaker" "failedCalls" "I") (by decide +kernel)) (fun _ h9 => h9) rfl (by decide +kernel) rfl rfl (Nat.le_of_ble_eq_true rfl) dX0_remember_28 (fun H locs hP hD hS => ?_)
    have hP : va_P D vwCl (cw cI a (upd g 20 x6) d F) H := hP
    have hD : va_D A (cw cI a (upd g 20 x6) d F) := hD
    refine lv_aload_n hx hb dX0_remember_31 rfl (lv_at hl 1 rfl) ?_
    refine lv_aload_n hx hb dX0_remember_32 rfl (lv_at hl 1 rfl) ?_
    refine va_get (D := D) (ci := 0) (v := .int ((g 21))) (C := RX0) (T := TX0) (N := 15) hx hb hts hi0 hown hK hP 4 rfl rfl 14 (by decide) (hts (.fieldLink RX0 61 "GuardedCalls$Breaker" "slowCalls" "I") (by decide +kernel)) (fun _ h9 => h9) rfl dX0_remember_33 ?_
    refine lv_iconst (v := 1) hx hb dX0_remember_36 (by decide) ?_
    refine lv_ishl hx hb dX0_remember_37 ?_
    refine lv_topi (fun x7 e7 => ?_)
    refine lv_iload_n hx hb dX0_remember_38 rfl (lv_at hl 3 rfl) ?_
    refine lv_if_eq (tgt := 46) hx hb dX0_remember_39 (by decide) (fun c8 => ?_) (fun c8 => ?_)
    · refine lv_iconst (v := 0) hx hb dX0_remember_46 (by decide) ?_
      refine lv_ior hx hb dX0_remember_47 ?_
      refine lv_topi (fun x9 e9 => ?_)
      refine lv_iload_n hx hb dX0_remember_48 rfl (lv_at hl 0 rfl) ?_
      refine lv_iand hx hb dX0_remember_49 ?_
      refine lv_topi (fun x10 e10 => ?_)
      refine va_put (D := D) (ci := 0) (v := .int x10) (ty := .int) (C := RX0) (T := TX0) (N := 15) hx hb hts hi0 tyX0 tyX0_ok nmX0 hown hK hP hD hS 4 rfl rfl 14 (by decide) (hts (.fieldLink RX0 61 "GuardedCalls$Breaker" "slowCalls" "I") (by decide +kernel)) (fun _ h9 => h9) rfl (by decide +kernel) rfl rfl (Nat.le_of_ble_eq_true rfl) dX0_remember_50 (fun H locs hP hD hS => ?_)
      have hP : va_P D vwCl (cw cI a (upd (upd g 20 x6) 21 x10) d F) H := hP
      have hD : va_D A (cw cI a (upd (upd g 20 x6) 21 x10) d F) := hD
      refine lv_aload_n hx hb dX0_remember_53 rfl (lv_at hl 1 rfl) ?_
      refine va_get (D := D) (ci := 0) (v := .int ((g 19))) (C := RX0) (T := TX0) (N := 15) hx hb hts hi0 hown hK hP 4 rfl rfl 12 (by decide) (hts (.fieldLink RX0 55 "GuardedCalls$Breaker" "calls" "I") (by decide +kernel)) (fun _ h9 => h9) rfl dX0_remember_54 ?_
      refine lv_aload_n hx hb dX0_remember_57 rfl (lv_at hl 1 rfl) ?_
      refine va_get (D := D) (ci := 0) (v := .int ((g 11))) (C := RX0) (T := TX0) (N := 15) hx hb hts hi0 hown hK hP 4 rfl rfl 2 (by decide) (hts (.fieldLink RX0 19 "GuardedCalls$Breaker" "size" "I") (by decide +kernel)) (fun _ h9 => h9) rfl dX0_remember_58 ?_
      refine lv_icmp_ge (tgt := 74) hx hb dX0_remember_61 (by decide) (fun c11 => ?_) (fun c11 => ?_)
      · exact W.vret hx hb hr (fun t ht hW => ⟨⟨(upd (upd g 20 x6) 21 x10, d, F), rfl, ⟨trivial, hI, rfl, rfl, rfl⟩, by rw [ht]; exact hP, hD⟩, hS.F ht⟩) hS.2.2 dX0_remember_74
      · refine lv_aload_n hx hb dX0_remember_64 rfl (lv_at hl 1 rfl) ?_
        refine lv_dup hx hb dX0_remember_65 rfl ?_
        refine va_get (D := D) (ci := 0) (v := .int ((g 19))) (C := RX0) (T := TX0) (N := 15) hx hb hts hi0 hown hK hP 4 rfl rfl 12 (by decide) (hts (.fieldLink RX0 55 "GuardedCalls$Breaker" "calls" "I") (by decide +kernel)) (fun _ h9 => h9) rfl dX0_remember_66 ?_
        refine lv_iconst (v := 1) hx hb dX0_remember_69 (by decide) ?_
        refine lv_iadd hx hb dX0_remember_70 ?_
        refine lv_topi (fun x12 e12 => ?_)
        refine va_put (D := D) (ci := 0) (v := .int x12) (ty := .int) (C := RX0) (T := TX0) (N := 15) hx hb hts hi0 tyX0 tyX0_ok nmX0 hown hK hP hD hS 4 rfl rfl 12 (by decide) (hts (.fieldLink RX0 55 "GuardedCalls$Breaker" "calls" "I") (by decide +kernel)) (fun _ h9 => h9) rfl (by decide +kernel) rfl rfl (Nat.le_of_ble_eq_true rfl) dX0_remember_71 (fun H locs hP hD hS => ?_)
        have hP : va_P D vwCl (cw cI a (upd (upd (upd g 20 x6) 21 x10) 19 x12) d F) H := hP
        have hD : va_D A (cw cI a (upd (upd (upd g 20 x6) 21 x10) 19 x12) d F) := hD
        exact W.vret hx hb hr (fun t ht hW => ⟨⟨(upd (upd (upd g 20 x6) 21 x10) 19 x12, d, F), rfl, ⟨trivial, hI, rfl, rfl, rfl⟩, by rw [ht]; exact hP, hD⟩, hS.F ht⟩) hS.2.2 dX0_remember_74
    · refine lv_iconst (v := 1) hx hb dX0_remember_42 (by decide) ?_
      refine lv_goto (tgt := 47) hx hb dX0_remember_43 (by decide) ?_
      refine lv_ior hx hb dX0_remember_47 ?_
      refine lv_topi (fun x13 e13 => ?_)
      refine lv_iload_n hx hb dX0_remember_48 rfl (lv_at hl 0 rfl) ?_
      refine lv_iand hx hb dX0_remember_49 ?_
      refine lv_topi (fun x14 e14 => ?_)
      refine va_put (D := D) (ci := 0) (v := .int x14) (ty := .int) (C := RX0) (T := TX0) (N := 15) hx hb hts hi0 tyX0 tyX0_ok nmX0 hown hK hP hD hS 4 rfl rfl 14 (by decide) (hts (.fieldLink RX0 61 "GuardedCalls$Breaker" "slowCalls" "I") (by decide +kernel)) (fun _ h9 => h9) rfl (by decide +kernel) rfl rfl (Nat.le_of_ble_eq_true rfl) dX0_remember_50 (fun H locs hP hD hS => ?_)
      have hP : va_P D vwCl (cw cI a (upd (upd g 20 x6) 21 x14) d F) H := hP
      have hD : va_D A (cw cI a (upd (upd g 20 x6) 21 x14) d F) := hD
      refine lv_aload_n hx hb dX0_remember_53 rfl (lv_at hl 1 rfl) ?_
      refine va_get (D := D) (ci := 0) (v := .int ((g 19))) (C := RX0) (T := TX0) (N := 15) hx hb hts hi0 hown hK hP 4 rfl rfl 12 (by decide) (hts (.fieldLink RX0 55 "GuardedCalls$Breaker" "calls" "I") (by decide +kernel)) (fun _ h9 => h9) rfl dX0_remember_54 ?_
      refine lv_aload_n hx hb dX0_remember_57 rfl (lv_at hl 1 rfl) ?_
      refine va_get (D := D) (ci := 0) (v := .int ((g 11))) (C := RX0) (T := TX0) (N := 15) hx hb hts hi0 hown hK hP 4 rfl rfl 2 (by decide) (hts (.fieldLink RX0 19 "GuardedCalls$Breaker" "size" "I") (by decide +kernel)) (fun _ h9 => h9) rfl dX0_remember_58 ?_
      refine lv_icmp_ge (tgt := 74) hx hb dX0_remember_61 (by decide) (fun c15 => ?_) (fun c15 => ?_)
      · exact W.vret hx hb hr (fun t ht hW => ⟨⟨(upd (upd g 20 x6) 21 x14, d, F), rfl, ⟨trivial, hI, rfl, rfl, rfl⟩, by rw [ht]; exact hP, hD⟩, hS.F ht⟩) hS.2.2 dX0_remember_74
      · refine lv_aload_n hx hb dX0_remember_64 rfl (lv_at hl 1 rfl) ?_
        refine lv_dup hx hb dX0_remember_65 rfl ?_
        refine va_get (D := D) (ci := 0) (v := .int ((g 19))) (C := RX0) (T := TX0) (N := 15) hx hb hts hi0 hown hK hP 4 rfl rfl 12 (by decide) (hts (.fieldLink RX0 55 "GuardedCalls$Breaker" "calls" "I") (by decide +kernel)) (fun _ h9 => h9) rfl dX0_remember_66 ?_
        refine lv_iconst (v := 1) hx hb dX0_remember_69 (by decide) ?_
        refine lv_iadd hx hb dX0_remember_70 ?_
        refine lv_topi (fun x16 e16 => ?_)
        refine va_put (D := D) (ci := 0) (v := .int x16) (ty := .int) (C := RX0) (T := TX0) (N := 15) hx hb hts hi0 tyX0 tyX0_ok nmX0 hown hK hP hD hS 4 rfl rfl 12 (by decide) (hts (.fieldLink RX0 55 "GuardedCalls$Breaker" "calls" "I") (by decide +kernel)) (fun _ h9 => h9) rfl (by decide +kernel) rfl rfl (Nat.le_of_ble_eq_true rfl) dX0_remember_71 (fun H locs hP hD hS => ?_)
        have hP : va_P D vwCl (cw cI a (upd (upd (upd g 20 x6) 21 x14) 19 x16) d F) H := hP
        have hD : va_D A (cw cI a (upd (upd (upd g 20 x6) 21 x14) 19 x16) d F) := hD
        exact W.vret hx hb hr (fun t ht hW => ⟨⟨(upd (upd (upd g 20 x6) 21 x14) 19 x16, d, F), rfl, ⟨trivial, hI, rfl, rfl, rfl⟩, by rw [ht]; exact hP, hD⟩, hS.F ht⟩) hS.2.2 dX0_remember_74
  · refine lv_iconst (v := 1) hx hb dX0_remember_20 (by decide) ?_
    refine lv_goto (tgt := 25) hx hb dX0_remember_21 (by decide) ?_
    refine lv_ior hx hb dX0_remember_25 ?_
    refine lv_topi (fun x17 e17 => ?_)
    refine lv_iload_n hx hb dX0_remember_26 rfl (lv_at hl 0 rfl) ?_
    refine lv_iand hx hb dX0_remember_27 ?_
    refine lv_topi (fun x18 e18 => ?_)
    refine va_put (D := D) (ci := 0) (v := .int x18) (ty := .int) (C := RX0) (T := TX0) (N := 15) hx hb hts hi0 tyX0 tyX0_ok nmX0 hown hK hP hD hS 4 rfl rfl 13 (by decide) (hts (.fieldLink RX0 58 "GuardedCalls$Breaker" "failedCalls" "I") (by decide +kernel)) (fun _ h9 => h9) rfl (by decide +kernel) rfl rfl (Nat.le_of_ble_eq_true rfl) dX0_remember_28 (fun H locs hP hD hS => ?_)
    have hP : va_P D vwCl (cw cI a (upd g 20 x18) d F) H := hP
    have hD : va_D A (cw cI a (upd g 20 x18) d F) := hD
    refine lv_aload_n hx hb dX0_remember_31 rfl (lv_at hl 1 rfl) ?_
    refine lv_aload_n hx hb dX0_remember_32 rfl (lv_at hl 1 rfl) ?_
    refine va_get (D := D) (ci := 0) (v := .int ((g 21))) (C := RX0) (T := TX0) (N := 15) hx hb hts hi0 hown hK hP 4 rfl rfl 14 (by decide) (hts (.fieldLink RX0 61 "GuardedCalls$Breaker" "slowCalls" "I") (by decide +kernel)) (fun _ h9 => h9) rfl dX0_remember_33 ?_
    refine lv_iconst (v := 1) hx hb dX0_remember_36 (by decide) ?_
    refine lv_ishl hx hb dX0_remember_37 ?_
    refine lv_topi (fun x19 e19 => ?_)
    refine lv_iload_n hx hb dX0_remember_38 rfl (lv_at hl 3 rfl) ?_
    refine lv_if_eq (tgt := 46) hx hb dX0_remember_39 (by decide) (fun c20 => ?_) (fun c20 => ?_)
    · refine lv_iconst (v := 0) hx hb dX0_remember_46 (by decide) ?_
      refine lv_ior hx hb dX0_remember_47 ?_
      refine lv_topi (fun x21 e21 => ?_)
      refine lv_iload_n hx hb dX0_remember_48 rfl (lv_at hl 0 rfl) ?_
      refine lv_iand hx hb dX0_remember_49 ?_
      refine lv_topi (fun x22 e22 => ?_)
      refine va_put (D := D) (ci := 0) (v := .int x22) (ty := .int) (C := RX0) (T := TX0) (N := 15) hx hb hts hi0 tyX0 tyX0_ok nmX0 hown hK hP hD hS 4 rfl rfl 14 (by decide) (hts (.fieldLink RX0 61 "GuardedCalls$Breaker" "slowCalls" "I") (by decide +kernel)) (fun _ h9 => h9) rfl (by decide +kernel) rfl rfl (Nat.le_of_ble_eq_true rfl) dX0_remember_50 (fun H locs hP hD hS => ?_)
      have hP : va_P D vwCl (cw cI a (upd (upd g 20 x18) 21 x22) d F) H := hP
      have hD : va_D A (cw cI a (upd (upd g 20 x18) 21 x22) d F) := hD
      refine lv_aload_n hx hb dX0_remember_53 rfl (lv_at hl 1 rfl) ?_
      refine va_get (D := D) (ci := 0) (v := .int ((g 19))) (C := RX0) (T := TX0) (N := 15) hx hb hts hi0 hown hK hP 4 rfl rfl 12 (by decide) (hts (.fieldLink RX0 55 "GuardedCalls$Breaker" "calls" "I") (by decide +kernel)) (fun _ h9 => h9) rfl dX0_remember_54 ?_
      refine lv_aload_n hx hb dX0_remember_57 rfl (lv_at hl 1 rfl) ?_
      refine va_get (D := D) (ci := 0) (v := .int ((g 11))) (C := RX0) (T := TX0) (N := 15) hx hb hts hi0 hown hK hP 4 rfl rfl 2 (by decide) (hts (.fieldLink RX0 19 "GuardedCalls$Breaker" "size" "I") (by decide +kernel)) (fun _ h9 => h9) rfl dX0_remember_58 ?_
      refine lv_icmp_ge (tgt := 74) hx hb dX0_remember_61 (by decide) (fun c23 => ?_) (fun c23 => ?_)
      · exact W.vret hx hb hr (fun t ht hW => ⟨⟨(upd (upd g 20 x18) 21 x22, d, F), rfl, ⟨trivial, hI, rfl, rfl, rfl⟩, by rw [ht]; exact hP, hD⟩, hS.F ht⟩) hS.2.2 dX0_remember_74
      · refine lv_aload_n hx hb dX0_remember_64 rfl (lv_at hl 1 rfl) ?_
        refine lv_dup hx hb dX0_remember_65 rfl ?_
        refine va_get (D := D) (ci := 0) (v := .int ((g 19))) (C := RX0) (T := TX0) (N := 15) hx hb hts hi0 hown hK hP 4 rfl rfl 12 (by decide) (hts (.fieldLink RX0 55 "GuardedCalls$Breaker" "calls" "I") (by decide +kernel)) (fun _ h9 => h9) rfl dX0_remember_66 ?_
        refine lv_iconst (v := 1) hx hb dX0_remember_69 (by decide) ?_
        refine lv_iadd hx hb dX0_remember_70 ?_
        refine lv_topi (fun x24 e24 => ?_)
        refine va_put (D := D) (ci := 0) (v := .int x24) (ty := .int) (C := RX0) (T := TX0) (N := 15) hx hb hts hi0 tyX0 tyX0_ok nmX0 hown hK hP hD hS 4 rfl rfl 12 (by decide) (hts (.fieldLink RX0 55 "GuardedCalls$Breaker" "calls" "I") (by decide +kernel)) (fun _ h9 => h9) rfl (by decide +kernel) rfl rfl (Nat.le_of_ble_eq_true rfl) dX0_remember_71 (fun H locs hP hD hS => ?_)
        have hP : va_P D vwCl (cw cI a (upd (upd (upd g 20 x18) 21 x22) 19 x24) d F) H := hP
        have hD : va_D A (cw cI a (upd (upd (upd g 20 x18) 21 x22) 19 x24) d F) := hD
        exact W.vret hx hb hr (fun t ht hW => ⟨⟨(upd (upd (upd g 20 x18) 21 x22) 19 x24, d, F), rfl, ⟨trivial, hI, rfl, rfl, rfl⟩, by rw [ht]; exact hP, hD⟩, hS.F ht⟩) hS.2.2 dX0_remember_74
    · refine lv_iconst (v := 1) hx hb dX0_remember_42 (by decide) ?_
      refine lv_goto (tgt := 47) hx hb dX0_remember_43 (by decide) ?_
      refine lv_ior hx hb dX0_remember_47 ?_
      refine lv_topi (fun x25 e25 => ?_)
      refine lv_iload_n hx hb dX0_remember_48 rfl (lv_at hl 0 rfl) ?_
      refine lv_iand hx hb dX0_remember_49 ?_
      refine lv_topi (fun x26 e26 => ?_)
      refine va_put (D := D) (ci := 0) (v := .int x26) (ty := .int) (C := RX0) (T := TX0) (N := 15) hx hb hts hi0 tyX0 tyX0_ok nmX0 hown hK hP hD hS 4 rfl rfl 14 (by decide) (hts (.fieldLink RX0 61 "GuardedCalls$Breaker" "slowCalls" "I") (by decide +kernel)) (fun _ h9 => h9) rfl (by decide +kernel) rfl rfl (Nat.le_of_ble_eq_true rfl) dX0_remember_50 (fun H locs hP hD hS => ?_)
      have hP : va_P D vwCl (cw cI a (upd (upd g 20 x18) 21 x26) d F) H := hP
      have hD : va_D A (cw cI a (upd (upd g 20 x18) 21 x26) d F) := hD
      refine lv_aload_n hx hb dX0_remember_53 rfl (lv_at hl 1 rfl) ?_
      refine va_get (D := D) (ci := 0) (v := .int ((g 19))) (C := RX0) (T := TX0) (N := 15) hx hb hts hi0 hown hK hP 4 rfl rfl 12 (by decide) (hts (.fieldLink RX0 55 "GuardedCalls$Breaker" "calls" "I") (by decide +kernel)) (fun _ h9 => h9) rfl dX0_remember_54 ?_
      refine lv_aload_n hx hb dX0_remember_57 rfl (lv_at hl 1 rfl) ?_
      refine va_get (D := D) (ci := 0) (v := .int ((g 11))) (C := RX0) (T := TX0) (N := 15) hx hb hts hi0 hown hK hP 4 rfl rfl 2 (by decide) (hts (.fieldLink RX0 19 "GuardedCalls$Breaker" "size" "I") (by decide +kernel)) (fun _ h9 => h9) rfl dX0_remember_58 ?_
      refine lv_icmp_ge (tgt := 74) hx hb dX0_remember_61 (by decide) (fun c27 => ?_) (fun c27 => ?_)
      · exact W.vret hx hb hr (fun t ht hW => ⟨⟨(upd (upd g 20 x18) 21 x26, d, F), rfl, ⟨trivial, hI, rfl, rfl, rfl⟩, by rw [ht]; exact hP, hD⟩, hS.F ht⟩) hS.2.2 dX0_remember_74
      · refine lv_aload_n hx hb dX0_remember_64 rfl (lv_at hl 1 rfl) ?_
        refine lv_dup hx hb dX0_remember_65 rfl ?_
        refine va_get (D := D) (ci := 0) (v := .int ((g 19))) (C := RX0) (T := TX0) (N := 15) hx hb hts hi0 hown hK hP 4 rfl rfl 12 (by decide) (hts (.fieldLink RX0 55 "GuardedCalls$Breaker" "calls" "I") (by decide +kernel)) (fun _ h9 => h9) rfl dX0_remember_66 ?_
        refine lv_iconst (v := 1) hx hb dX0_remember_69 (by decide) ?_
        refine lv_iadd hx hb dX0_remember_70 ?_
        refine lv_topi (fun x28 e28 => ?_)
        refine va_put (D := D) (ci := 0) (v := .int x28) (ty := .int) (C := RX0) (T := TX0) (N := 15) hx hb hts hi0 tyX0 tyX0_ok nmX0 hown hK hP hD hS 4 rfl rfl 12 (by decide) (hts (.fieldLink RX0 55 "GuardedCalls$Breaker" "calls" "I") (by decide +kernel)) (fun _ h9 => h9) rfl (by decide +kernel) rfl rfl (Nat.le_of_ble_eq_true rfl) dX0_remember_71 (fun H locs hP hD hS => ?_)
        have hP : va_P D vwCl (cw cI a (upd (upd (upd g 20 x18) 21 x26) 19 x28) d F) H := hP
        have hD : va_D A (cw cI a (upd (upd (upd g 20 x18) 21 x26) 19 x28) d F) := hD
        exact W.vret hx hb hr (fun t ht hW => ⟨⟨(upd (upd (upd g 20 x18) 21 x26) 19 x28, d, F), rfl, ⟨trivial, hI, rfl, rfl, rfl⟩, by rw [ht]; exact hP, hD⟩, hS.F ht⟩) hS.2.2 dX0_remember_74
set_option maxHeartbeats 4000000 in
set_option maxRecDepth 100000 in
theorem s_X0_decideTrials (l : Launch) (D : va_G) (cI : ClassId) (a : Nat → Nat) (sz : Nat) (g : Nat → Int32) (d : Nat → UInt64) (F : Nat → Nat → Int32) {bd : Nat} (hI : CI bd g d F) : Met l yX0_decideTrials wsX0_decideTrials ({ frames := 3, cells := 0, slots := 0, locals := 61 }) (gP (KC D cI) D (cw cI a g d F) sz [.ref (a 4)]) (va_Qv (fun (u : SS) => (True) ∧ CP (bd) g F u) (gB D (wfC cI a) (va_A (cw cI a g d F) sz)) (va_A (cw cI a g d F) sz)) 0 0 (va_A (cw cI a g d F) sz) := by
  refine Met.ofW (cc := cX0_decideTrials) (maxL := 1) (ret := none) (by decide) rfl ?_
  intro p e s m args below meth c s₁ B hml hv
  obtain ⟨rfl, hsz, hP, hD0, hKK⟩ := hv
  have hx := B.exec
  have hb := B.bytes
  have hr := B.returns
  have hts := atoms_spec (ws := wsX0_decideTrials) B.pre
  have hown : s.vm.findClass RX0 = some m.cls := findClass_of_methodNamed B.named
  have hlocks := B.notSynchronized
  subst hsz
  have hK := hKK.1
  have hok := KC_ok D cI
  have hD := hD0.self (sz := s.heap.size)
  generalize hAe : va_A (cw cI a g d F) s.heap.size = A at hD ⊢
  have hi0 : ∀ w ∈ wsX00, w ∈ wsX0_decideTrials := fun w h => List.mem_cons_of_mem _ (List.mem_append_left _ (List.mem_append_left _ (List.mem_append_right _ h)))
  have hi1 : ∀ w ∈ wsX10, w ∈ wsX0_decideTrials := fun w h => List.mem_cons_of_mem _ (List.mem_append_left _ (List.mem_append_right _ h))
  have hi2 : ∀ w ∈ wsX20, w ∈ wsX0_decideTrials := fun w h => List.mem_cons_of_mem _ (List.mem_append_right _ h)
  have hA : ∀ q : Nat, s.heap.size ≤ q → A q := fun q h => by rw [← hAe]; exact Or.inr h
  have hS : va_S A s.heap s.heap [] := va_S.rf
  have hP : va_P D vwCl (cw cI a g d F) s.heap := hP
  have hl := lv_entry ([.ref ((a 4))]) (n := 1) (Nat.le_of_ble_eq_true rfl)
  rw [lg_entry_eq]
  generalize (lg_sl ([.ref ((a 4))]) ++ List.replicate (1 - (lg_sl ([.ref ((a 4))])).length) Slot.unset).toArray = ls at hl ⊢
  have hl : lv_has ls 1 [(0, .ref ((a 4)))] := hl
  refine lv_aload_n hx hb dX0_decideTrials_0 rfl (lv_at hl 0 rfl) ?_
  refine va_get (D := D) (ci := 0) (v := .int ((g 19))) (C := RX0) (T := TX0) (N := 15) hx hb hts hi0 hown hK hP 4 rfl rfl 12 (by decide) (hts (.fieldLink RX0 55 "GuardedCalls$Breaker" "calls" "I") (by decide +kernel)) (fun _ h9 => h9) rfl dX0_decideTrials_1 ?_
  refine lv_aload_n hx hb dX0_decideTrials_4 rfl (lv_at hl 0 rfl) ?_
  refine va_get (D := D) (ci := 0) (v := .int ((g 14))) (C := RX0) (T := TX0) (N := 15) hx hb hts hi0 hown hK hP 4 rfl rfl 5 (by decide) (hts (.fieldLink RX0 29 "GuardedCalls$Breaker" "trials" "I") (by decide +kernel)) (fun _ h9 => h9) rfl dX0_decideTrials_5 ?_
  refine lv_icmp_ge (tgt := 12) hx hb dX0_decideTrials_8 (by decide) (fun c1 => ?_) (fun c1 => ?_)
  · refine lv_aload_n hx hb dX0_decideTrials_12 rfl (lv_at hl 0 rfl) ?_
    refine gc_vi (As := []) (rest := []) (w0 := cw cI a g d F) (wc := cw cI a g d F) (wr := []) (wf := wfC cI a) ⟨hx, hb, hml, hown, hts⟩ hKK hok hP hD hS hA [0, 1, 2, 3, 4, 5, 6, 7, 8, 9, 10, 11] [] rfl rfl (by decide) (s_X0_isTripped l D cI a _ g d F hI) (cwV 0 hts gX0_decideTrials_X0_isTripped rfl rfl rfl (by decide +kernel) ⟨Nat.le_of_ble_eq_true rfl, Nat.le_of_ble_eq_true rfl⟩) (va_recv hK hP (ci := 0) (q0 := 4) rfl rfl) rfl hl.1 rfl (Nat.le_of_ble_eq_true rfl) dX0_decideTrials_13 ⟨Nat.le_of_ble_eq_true rfl, Nat.le_of_ble_eq_true rfl⟩ (fun r2 u2 H locs hw2 hP hD hS => ?_)
    obtain ⟨g2, d2, F2⟩ := u2
    have hP : va_P D vwCl (cw cI a g2 d2 F2) H := hP
    have hD : va_D A (cw cI a g2 d2 F2) := hD
    refine lv_if_eq (tgt := 26) hx hb dX0_decideTrials_16 (by decide) (fun c3 => ?_) (fun c3 => ?_)
    · refine lv_aload_n hx hb dX0_decideTrials_26 rfl (lv_at hl 0 rfl) ?_
      refine gc_vv (As := []) (rest := []) (w0 := cw cI a g2 d2 F2) (wc := cw cI a g2 d2 F2) (wr := []) (wf := wfC cI a) ⟨hx, hb, hml, hown, hts⟩ hKK hok hP hD hS hA [0, 1, 2, 3, 4, 5, 6, 7, 8, 9, 10, 11] [] rfl rfl (by decide) (s_X0_close l D cI a _ g2 d2 F2 hw2.2.1) (cwV 0 hts gX0_decideTrials_X0_close rfl rfl rfl (by decide +kernel) ⟨Nat.le_of_ble_eq_true rfl, Nat.le_of_ble_eq_true rfl⟩) (va_recv hK hP (ci := 0) (q0 := 4) rfl rfl) rfl hl.1 rfl (Nat.le_of_ble_eq_true rfl) dX0_decideTrials_27 ⟨Nat.le_of_ble_eq_true rfl, Nat.le_of_ble_eq_true rfl⟩ (fun u4 H locs hw4 hP hD hS => ?_)
      obtain ⟨g4, d4, F4⟩ := u4
      have hP : va_P D vwCl (cw cI a g4 d4 F4) H := hP
      have hD : va_D A (cw cI a g4 d4 F4) := hD
      exact W.vret hx hb hr (fun t ht hW => ⟨⟨(g4, d4, F4), rfl, ⟨trivial, hw4.2.1, (hw4.2.2.1.trans hw2.2.2.1), (hw4.2.2.2.1.trans hw2.2.2.2.1), (hw4.2.2.2.2.trans hw2.2.2.2.2)⟩, by rw [ht]; exact hP, hD⟩, hS.F ht⟩) hS.2.2 dX0_decideTrials_30
    · refine lv_aload_n hx hb dX0_decideTrials_19 rfl (lv_at hl 0 rfl) ?_
      refine gc_vv (As := []) (rest := []) (w0 := cw cI a g2 d2 F2) (wc := cw cI a g2 d2 F2) (wr := []) (wf := wfC cI a) ⟨hx, hb, hml, hown, hts⟩ hKK hok hP hD hS hA [0, 1, 2, 3, 4, 5, 6, 7, 8, 9, 10, 11] [] rfl rfl (by decide) (s_X0_open l D cI a _ g2 d2 F2 hw2.2.1) (cwV 0 hts gX0_decideTrials_X0_open rfl rfl rfl (by decide +kernel) ⟨Nat.le_of_ble_eq_true rfl, Nat.le_of_ble_eq_true rfl⟩) (va_recv hK hP (ci := 0) (q0 := 4) rfl rfl) rfl hl.1 rfl (Nat.le_of_ble_eq_true rfl) dX0_decideTrials_20 ⟨Nat.le_of_ble_eq_true rfl, Nat.le_of_ble_eq_true rfl⟩ (fun u5 H locs hw5 hP hD hS => ?_)
      obtain ⟨g5, d5, F5⟩ := u5
      have hP : va_P D vwCl (cw cI a g5 d5 F5) H := hP
      have hD : va_D A (cw cI a g5 d5 F5) := hD
      refine lv_goto (tgt := 30) hx hb dX0_decideTrials_23 (by decide) ?_
      exact W.vret hx hb hr (fun t ht hW => ⟨⟨(g5, d5, F5), rfl, ⟨trivial, hw5.2.1, (hw5.2.2.1.trans hw2.2.2.1), (hw5.2.2.2.1.trans hw2.2.2.2.1), (hw5.2.2.2.2.trans hw2.2.2.2.2)⟩, by rw [ht]; exact hP, hD⟩, hS.F ht⟩) hS.2.2 dX0_decideTrials_30
  · exact W.vret hx hb hr (fun t ht hW => ⟨⟨(g, d, F), rfl, ⟨trivial, hI, rfl, rfl, rfl⟩, by rw [ht]; exact hP, hD⟩, hS.F ht⟩) hS.2.2 dX0_decideTrials_11
set_option maxHeartbeats 4000000 in
set_option maxRecDepth 100000 in
theorem s_X0_learn (l : Launch) (D : va_G) (cI : ClassId) (a : Nat → Nat) (sz : Nat) (g : Nat → Int32) (d : Nat → UInt64) (F : Nat → Nat → Int32) (p_f : Int32) (p_t : Int32) {bd : Nat} (hI : CI bd g d F) : Met l yX0_learn wsX0_learn ({ frames := 4, cells := 0, slots := 0, locals := 81 }) (gP (KC D cI) D (cw cI a g d F) sz [.ref (a 4), .int p_f, .int p_t]) (va_Qv (fun (u : SS) => (True) ∧ CP (bd) g F u) (gB D (wfC cI a) (va_A (cw cI a g d F) sz)) (va_A (cw cI a g d F) sz)) 0 0 (va_A (cw cI a g d F) sz) := by
  refine Met.ofW (cc := cX0_learn) (maxL := 3) (ret := none) (by decide) rfl ?_
  intro p e s m args below meth c s₁ B hml hv
  obtain ⟨rfl, hsz, hP, hD0, hKK⟩ := hv
  have hx := B.exec
  have hb := B.bytes
  have hr := B.returns
  have hts := atoms_spec (ws := wsX0_learn) B.pre
  have hown : s.vm.findClass RX0 = some m.cls := findClass_of_methodNamed B.named
  have hlocks := B.notSynchronized
  subst hsz
  have hK := hKK.1
  have hok := KC_ok D cI
  have hD := hD0.self (sz := s.heap.size)
  generalize hAe : va_A (cw cI a g d F) s.heap.size = A at hD ⊢
  have hi0 : ∀ w ∈ wsX00, w ∈ wsX0_learn := fun w h => List.mem_cons_of_mem _ (List.mem_append_left _ (List.mem_append_left _ (List.mem_append_right _ h)))
  have hi1 : ∀ w ∈ wsX10, w ∈ wsX0_learn := fun w h => List.mem_cons_of_mem _ (List.mem_append_left _ (List.mem_append_right _ h))
  have hi2 : ∀ w ∈ wsX20, w ∈ wsX0_learn := fun w h => List.mem_cons_of_mem _ (List.mem_append_right _ h)
  have hA : ∀ q : Nat, s.heap.size ≤ q → A q := fun q h => by rw [← hAe]; exact Or.inr h
  have hS : va_S A s.heap s.heap [] := va_S.rf
  have hP : va_P D vwCl (cw cI a g d F) s.heap := hP
  have hl := lv_entry ([.ref ((a 4)), .int p_f, .int p_t]) (n := 3) (Nat.le_of_ble_eq_true rfl)
  rw [lg_entry_eq]
  generalize (lg_sl ([.ref ((a 4)), .int p_f, .int p_t]) ++ List.replicate (3 - (lg_sl ([.ref ((a 4)), .int p_f, .int p_t])).length) Slot.unset).toArray = ls at hl ⊢
  have hl : lv_has ls 3 [(0, .ref ((a 4))), (1, .int p_f), (2, .int p_t)] := hl
  refine lv_aload_n hx hb dX0_learn_0 rfl (lv_at hl 0 rfl) ?_
  refine lv_iload_n hx hb dX0_learn_1 rfl (lv_at hl 1 rfl) ?_
  refine lv_iload_n hx hb dX0_learn_2 rfl (lv_at hl 2 rfl) ?_
  refine lv_aload_n hx hb dX0_learn_3 rfl (lv_at hl 0 rfl) ?_
  refine va_get (D := D) (ci := 0) (v := .int ((g 15))) (C := RX0) (T := TX0) (N := 15) hx hb hts hi0 hown hK hP 4 rfl rfl 8 (by decide) (hts (.fieldLink RX0 43 "GuardedCalls$Breaker" "slow" "I") (by decide +kernel)) (fun _ h9 => h9) rfl dX0_learn_4 ?_
  refine lv_icmp_lt (tgt := 14) hx hb dX0_learn_7 (by decide) (fun c1 => ?_) (fun c1 => ?_)
  · refine lv_iconst (v := 0) hx hb dX0_learn_14 (by decide) ?_
    refine gc_vv (As := [.int p_f, .int 0]) (rest := []) (w0 := cw cI a g d F) (wc := cw cI a g d F) (wr := []) (wf := wfC cI a) ⟨hx, hb, hml, hown, hts⟩ hKK hok hP hD hS hA [0, 1, 2, 3, 4, 5, 6, 7, 8, 9, 10, 11] [] rfl rfl (by decide) (s_X0_remember l D cI a _ g d F p_f 0 hI) (cwV 2 hts gX0_learn_X0_remember rfl rfl rfl (by decide +kernel) ⟨Nat.le_of_ble_eq_true rfl, Nat.le_of_ble_eq_true rfl⟩) (va_recv hK hP (ci := 0) (q0 := 4) rfl rfl) rfl hl.1 rfl (Nat.le_of_ble_eq_true rfl) dX0_learn_15 ⟨Nat.le_of_ble_eq_true rfl, Nat.le_of_ble_eq_true rfl⟩ (fun u2 H locs hw2 hP hD hS => ?_)
    obtain ⟨g2, d2, F2⟩ := u2
    have hP : va_P D vwCl (cw cI a g2 d2 F2) H := hP
    have hD : va_D A (cw cI a g2 d2 F2) := hD
    refine lv_aload_n hx hb dX0_learn_18 rfl (lv_at hl 0 rfl) ?_
    refine va_get (D := D) (ci := 0) (v := .int ((g2 16))) (C := RX0) (T := TX0) (N := 15) hx hb hts hi0 hown hK hP 4 rfl rfl 9 (by decide) (hts (.fieldLink RX0 46 "GuardedCalls$Breaker" "state" "I") (by decide +kernel)) (fun _ h9 => h9) rfl dX0_learn_19 ?_
    refine lv_iconst (v := 2) hx hb dX0_learn_22 (by decide) ?_
    refine lv_icmp_ne (tgt := 33) hx hb dX0_learn_23 (by decide) (fun c3 => ?_) (fun c3 => ?_)
    · refine lv_aload_n hx hb dX0_learn_33 rfl (lv_at hl 0 rfl) ?_
      refine va_get (D := D) (ci := 0) (v := .int ((g2 19))) (C := RX0) (T := TX0) (N := 15) hx hb hts hi0 hown hK hP 4 rfl rfl 12 (by decide) (hts (.fieldLink RX0 55 "GuardedCalls$Breaker" "calls" "I") (by decide +kernel)) (fun _ h9 => h9) rfl dX0_learn_34 ?_
      refine lv_aload_n hx hb dX0_learn_37 rfl (lv_at hl 0 rfl) ?_
      refine va_get (D := D) (ci := 0) (v := .int ((g2 12))) (C := RX0) (T := TX0) (N := 15) hx hb hts hi0 hown hK hP 4 rfl rfl 3 (by decide) (hts (.fieldLink RX0 23 "GuardedCalls$Breaker" "least" "I") (by decide +kernel)) (fun _ h9 => h9) rfl dX0_learn_38 ?_
      refine lv_icmp_lt (tgt := 55) hx hb dX0_learn_41 (by decide) (fun c4 => ?_) (fun c4 => ?_)
      · exact W.vret hx hb hr (fun t ht hW => ⟨⟨(g2, d2, F2), rfl, ⟨trivial, hw2.2.1, hw2.2.2.1, hw2.2.2.2.1, hw2.2.2.2.2⟩, by rw [ht]; exact hP, hD⟩, hS.F ht⟩) hS.2.2 dX0_learn_55
      · refine lv_aload_n hx hb dX0_learn_44 rfl (lv_at hl 0 rfl) ?_
        refine gc_vi (As := []) (rest := []) (w0 := cw cI a g2 d2 F2) (wc := cw cI a g2 d2 F2) (wr := []) (wf := wfC cI a) ⟨hx, hb, hml, hown, hts⟩ hKK hok hP hD hS hA [0, 1, 2, 3, 4, 5, 6, 7, 8, 9, 10, 11] [] rfl rfl (by decide) (s_X0_isTripped l D cI a _ g2 d2 F2 hw2.2.1) (cwV 0 hts gX0_learn_X0_isTripped rfl rfl rfl (by decide +kernel) ⟨Nat.le_of_ble_eq_true rfl, Nat.le_of_ble_eq_true rfl⟩) (va_recv hK hP (ci := 0) (q0 := 4) rfl rfl) rfl hl.1 rfl (Nat.le_of_ble_eq_true rfl) dX0_learn_45 ⟨Nat.le_of_ble_eq_true rfl, Nat.le_of_ble_eq_true rfl⟩ (fun r5 u5 H locs hw5 hP hD hS => ?_)
        obtain ⟨g5, d5, F5⟩ := u5
        have hP : va_P D vwCl (cw cI a g5 d5 F5) H := hP
        have hD : va_D A (cw cI a g5 d5 F5) := hD
        refine lv_if_eq (tgt := 55) hx hb dX0_learn_48 (by decide) (fun c6 => ?_) (fun c6 => ?_)
        · exact W.vret hx hb hr (fun t ht hW => ⟨⟨(g5, d5, F5), rfl, ⟨trivial, hw5.2.1, (hw5.2.2.1.trans hw2.2.2.1), (hw5.2.2.2.1.trans hw2.2.2.2.1), (hw5.2.2.2.2.trans hw2.2.2.2.2)⟩, by rw [ht]; exact hP, hD⟩, hS.F ht⟩) hS.2.2 dX0_learn_55
        · refine lv_aload_n hx hb dX0_learn_51 rfl (lv_at hl 0 rfl) ?_
          refine gc_vv (As := []) (rest := []) (w0 := cw cI a g5 d5 F5) (wc := cw cI a g5 d5 F5) (wr := []) (wf := wfC cI a) ⟨hx, hb, hml, hown, hts⟩ hKK hok hP hD hS hA [0, 1, 2, 3, 4, 5, 6, 7, 8, 9, 10, 11] [] rfl rfl (by decide) (s_X0_open l D cI a _ g5 d5 F5 hw5.2.1) (cwV 0 hts gX0_learn_X0_open rfl rfl rfl (by decide +kernel) ⟨Nat.le_of_ble_eq_true rfl, Nat.le_of_ble_eq_true rfl⟩) (va_recv hK hP (ci := 0) (q0 := 4) rfl rfl) rfl hl.1 rfl (Nat.le_of_ble_eq_true rfl) dX0_learn_52 ⟨Nat.le_of_ble_eq_true rfl, Nat.le_of_ble_eq_true rfl⟩ (fun u7 H locs hw7 hP hD hS => ?_)
          obtain ⟨g7, d7, F7⟩ := u7
          have hP : va_P D vwCl (cw cI a g7 d7 F7) H := hP
          have hD : va_D A (cw cI a g7 d7 F7) := hD
          exact W.vret hx hb hr (fun t ht hW => ⟨⟨(g7, d7, F7), rfl, ⟨trivial, hw7.2.1, (hw7.2.2.1.trans (hw5.2.2.1.trans hw2.2.2.1)), (hw7.2.2.2.1.trans (hw5.2.2.2.1.trans hw2.2.2.2.1)), (hw7.2.2.2.2.trans (hw5.2.2.2.2.trans hw2.2.2.2.2))⟩, by rw [ht]; exact hP, hD⟩, hS.F ht⟩) hS.2.2 dX0_learn_55
    · refine lv_aload_n hx hb dX0_learn_26 rfl (lv_at hl 0 rfl) ?_
      refine gc_vv (As := []) (rest := []) (w0 := cw cI a g2 d2 F2) (wc := cw cI a g2 d2 F2) (wr := []) (wf := wfC cI a) ⟨hx, hb, hml, hown, hts⟩ hKK hok hP hD hS hA [0, 1, 2, 3, 4, 5, 6, 7, 8, 9, 10, 11] [] rfl rfl (by decide) (s_X0_decideTrials l D cI a _ g2 d2 F2 hw2.2.1) (cwV 0 hts gX0_learn_X0_decideTrials rfl rfl rfl (by decide +kernel) ⟨Nat.le_of_ble_eq_true rfl, Nat.le_of_ble_eq_true rfl⟩) (va_recv hK hP (ci := 0) (q0 := 4) rfl rfl) rfl hl.1 rfl (Nat.le_of_ble_eq_true rfl) dX0_learn_27 ⟨Nat.le_of_ble_eq_true rfl, Nat.le_of_ble_eq_true rfl⟩ (fun u8 H locs hw8 hP hD hS => ?_)
      obtain ⟨g8, d8, F8⟩ := u8
      have hP : va_P D vwCl (cw cI a g8 d8 F8) H := hP
      have hD : va_D A (cw cI a g8 d8 F8) := hD
      refine lv_goto (tgt := 55) hx hb dX0_learn_30 (by decide) ?_
      exact W.vret hx hb hr (fun t ht hW => ⟨⟨(g8, d8, F8), rfl, ⟨trivial, hw8.2.1, (hw8.2.2.1.trans hw2.2.2.1), (hw8.2.2.2.1.trans hw2.2.2.2.1), (hw8.2.2.2.2.trans hw2.2.2.2.2)⟩, by rw [ht]; exact hP, hD⟩, hS.F ht⟩) hS.2.2 dX0_learn_55
  · refine lv_iconst (v := 1) hx hb dX0_learn_10 (by decide) ?_
    refine lv_goto (tgt := 15) hx hb dX0_learn_11 (by decide) ?_
    refine gc_vv (As := [.int p_f, .int 1]) (rest := []) (w0 := cw cI a g d F) (wc := cw cI a g d F) (wr := []) (wf := wfC cI a) ⟨hx, hb, hml, hown, hts⟩ hKK hok hP hD hS hA [0, 1, 2, 3, 4, 5, 6, 7, 8, 9, 10, 11] [] rfl rfl (by decide) (s_X0_remember l D cI a _ g d F p_f 1 hI) (cwV 2 hts gX0_learn_X0_remember rfl rfl rfl (by decide +kernel) ⟨Nat.le_of_ble_eq_true rfl, Nat.le_of_ble_eq_true rfl⟩) (va_recv hK hP (ci := 0) (q0 := 4) rfl rfl) rfl hl.1 rfl (Nat.le_of_ble_eq_true rfl) dX0_learn_15 ⟨Nat.le_of_ble_eq_true rfl, Nat.le_of_ble_eq_true rfl⟩ (fun u9 H locs hw9 hP hD hS => ?_)
    obtain ⟨g9, d9, F9⟩ := u9
    have hP : va_P D vwCl (cw cI a g9 d9 F9) H := hP
    have hD : va_D A (cw cI a g9 d9 F9) := hD
    refine lv_aload_n hx hb dX0_learn_18 rfl (lv_at hl 0 rfl) ?_
    refine va_get (D := D) (ci := 0) (v := .int ((g9 16))) (C := RX0) (T := TX0) (N := 15) hx hb hts hi0 hown hK hP 4 rfl rfl 9 (by decide) (hts (.fieldLink RX0 46 "GuardedCalls$Breaker" "state" "I") (by decide +kernel)) (fun _ h9 => h9) rfl dX0_learn_19 ?_
    refine lv_iconst (v := 2) hx hb dX0_learn_22 (by decide) ?_
    refine lv_icmp_ne (tgt := 33) hx hb dX0_learn_23 (by decide) (fun c10 => ?_) (fun c10 => ?_)
    · refine lv_aload_n hx hb dX0_learn_33 rfl (lv_at hl 0 rfl) ?_
      refine va_get (D := D) (ci := 0) (v := .int ((g9 19))) (C := RX0) (T := TX0) (N := 15) hx hb hts hi0 hown hK hP 4 rfl rfl 12 (by decide) (hts (.fieldLink RX0 55 "GuardedCalls$Breaker" "calls" "I") (by decide +kernel)) (fun _ h9 => h9) rfl dX0_learn_34 ?_
      refine lv_aload_n hx hb dX0_learn_37 rfl (lv_at hl 0 rfl) ?_
      refine va_get (D := D) (ci := 0) (v := .int ((g9 12))) (C := RX0) (T := TX0) (N := 15) hx hb hts hi0 hown hK hP 4 rfl rfl 3 (by decide) (hts (.fieldLink RX0 23 "GuardedCalls$Breaker" "least" "I") (by decide +kernel)) (fun _ h9 => h9) rfl dX0_learn_38 ?_
      refine lv_icmp_lt (tgt := 55) hx hb dX0_learn_41 (by decide) (fun c11 => ?_) (fun c11 => ?_)
      · exact W.vret hx hb hr (fun t ht hW => ⟨⟨(g9, d9, F9), rfl, ⟨trivial, hw9.2.1, hw9.2.2.1, hw9.2.2.2.1, hw9.2.2.2.2⟩, by rw [ht]; exact hP, hD⟩, hS.F ht⟩) hS.2.2 dX0_learn_55
      · refine lv_aload_n hx hb dX0_learn_44 rfl (lv_at hl 0 rfl) ?_
        refine gc_vi (As := []) (rest := []) (w0 := cw cI a g9 d9 F9) (wc := cw cI a g9 d9 F9) (wr := []) (wf := wfC cI a) ⟨hx, hb, hml, hown, hts⟩ hKK hok hP hD hS hA [0, 1, 2, 3, 4, 5, 6, 7, 8, 9, 10, 11] [] rfl rfl (by decide) (s_X0_isTripped l D cI a _ g9 d9 F9 hw9.2.1) (cwV 0 hts gX0_learn_X0_isTripped rfl rfl rfl (by decide +kernel) ⟨Nat.le_of_ble_eq_true rfl, Nat.le_of_ble_eq_true rfl⟩) (va_recv hK hP (ci := 0) (q0 := 4) rfl rfl) rfl hl.1 rfl (Nat.le_of_ble_eq_true rfl) dX0_learn_45 ⟨Nat.le_of_ble_eq_true rfl, Nat.le_of_ble_eq_true rfl⟩ (fun r12 u12 H locs hw12 hP hD hS => ?_)
        obtain ⟨g12, d12, F12⟩ := u12
        have hP : va_P D vwCl (cw cI a g12 d12 F12) H := hP
        have hD : va_D A (cw cI a g12 d12 F12) := hD
        refine lv_if_eq (tgt := 55) hx hb dX0_learn_48 (by decide) (fun c13 => ?_) (fun c13 => ?_)
        · exact W.vret hx hb hr (fun t ht hW => ⟨⟨(g12, d12, F12), rfl, ⟨trivial, hw12.2.1, (hw12.2.2.1.trans hw9.2.2.1), (hw12.2.2.2.1.trans hw9.2.2.2.1), (hw12.2.2.2.2.trans hw9.2.2.2.2)⟩, by rw [ht]; exact hP, hD⟩, hS.F ht⟩) hS.2.2 dX0_learn_55
        · refine lv_aload_n hx hb dX0_learn_51 rfl (lv_at hl 0 rfl) ?_
          refine gc_vv (As := []) (rest := []) (w0 := cw cI a g12 d12 F12) (wc := cw cI a g12 d12 F12) (wr := []) (wf := wfC cI a) ⟨hx, hb, hml, hown, hts⟩ hKK hok hP hD hS hA [0, 1, 2, 3, 4, 5, 6, 7, 8, 9, 10, 11] [] rfl rfl (by decide) (s_X0_open l D cI a _ g12 d12 F12 hw12.2.1) (cwV 0 hts gX0_learn_X0_open rfl rfl rfl (by decide +kernel) ⟨Nat.le_of_ble_eq_true rfl, Nat.le_of_ble_eq_true rfl⟩) (va_recv hK hP (ci := 0) (q0 := 4) rfl rfl) rfl hl.1 rfl (Nat.le_of_ble_eq_true rfl) dX0_learn_52 ⟨Nat.le_of_ble_eq_true rfl, Nat.le_of_ble_eq_true rfl⟩ (fun u14 H locs hw14 hP hD hS => ?_)
          obtain ⟨g14, d14, F14⟩ := u14
          have hP : va_P D vwCl (cw cI a g14 d14 F14) H := hP
          have hD : va_D A (cw cI a g14 d14 F14) := hD
          exact W.vret hx hb hr (fun t ht hW => ⟨⟨(g14, d14, F14), rfl, ⟨trivial, hw14.2.1, (hw14.2.2.1.trans (hw12.2.2.1.trans hw9.2.2.1)), (hw14.2.2.2.1.trans (hw12.2.2.2.1.trans hw9.2.2.2.1)), (hw14.2.2.2.2.trans (hw12.2.2.2.2.trans hw9.2.2.2.2))⟩, by rw [ht]; exact hP, hD⟩, hS.F ht⟩) hS.2.2 dX0_learn_55
    · refine lv_aload_n hx hb dX0_learn_26 rfl (lv_at hl 0 rfl) ?_
      refine gc_vv (As := []) (rest := []) (w0 := cw cI a g9 d9 F9) (wc := cw cI a g9 d9 F9) (wr := []) (wf := wfC cI a) ⟨hx, hb, hml, hown, hts⟩ hKK hok hP hD hS hA [0, 1, 2, 3, 4, 5, 6, 7, 8, 9, 10, 11] [] rfl rfl (by decide) (s_X0_decideTrials l D cI a _ g9 d9 F9 hw9.2.1) (cwV 0 hts gX0_learn_X0_decideTrials rfl rfl rfl (by decide +kernel) ⟨Nat.le_of_ble_eq_true rfl, Nat.le_of_ble_eq_true rfl⟩) (va_recv hK hP (ci := 0) (q0 := 4) rfl rfl) rfl hl.1 rfl (Nat.le_of_ble_eq_true rfl) dX0_learn_27 ⟨Nat.le_of_ble_eq_true rfl, Nat.le_of_ble_eq_true rfl⟩ (fun u15 H locs hw15 hP hD hS => ?_)
      obtain ⟨g15, d15, F15⟩ := u15
      have hP : va_P D vwCl (cw cI a g15 d15 F15) H := hP
      have hD : va_D A (cw cI a g15 d15 F15) := hD
      refine lv_goto (tgt := 55) hx hb dX0_learn_30 (by decide) ?_
      exact W.vret hx hb hr (fun t ht hW => ⟨⟨(g15, d15, F15), rfl, ⟨trivial, hw15.2.1, (hw15.2.2.1.trans hw9.2.2.1), (hw15.2.2.2.1.trans hw9.2.2.2.1), (hw15.2.2.2.2.trans hw9.2.2.2.2)⟩, by rw [ht]; exact hP, hD⟩, hS.F ht⟩) hS.2.2 dX0_learn_55
set_option maxHeartbeats 4000000 in
set_option maxRecDepth 100000 in
theorem s_X3_cycleNow (l : Launch) (D : va_G) (cI : ClassId) (a : Nat → Nat) (sz : Nat) (g : Nat → Int32) (d : Nat → UInt64) (F : Nat → Nat → Int32) (hp : 1 ≤ (g 22).toInt) : Met l yX3_cycleNow wsX3_cycleNow ({ frames := 0, cells := 0, slots := 0, locals := 0 }) (gP (KC D cI) D (cw cI a g d F) sz [.ref (a 5)]) (va_Qi (fun (r : Int32) (u : SS) => r = (g 6) / (g 22) ∧ u = (g, d, F)) (gB D (wfC cI a) (va_A (cw cI a g d F) sz)) (va_A (cw cI a g d F) sz)) 0 0 (va_A (cw cI a g d F) sz) := by
  refine Met.ofW (cc := cX3_cycleNow) (maxL := 1) (ret := (some .int)) (by decide) rfl ?_
  intro p e s m args below meth c s₁ B hml hv
  obtain ⟨rfl, hsz, hP, hD0, hKK⟩ := hv
  have hx := B.exec
  have hb := B.bytes
  have hr := B.returns
  have hts := atoms_spec (ws := wsX3_cycleNow) B.pre
  have hown : s.vm.findClass RX3 = some m.cls := findClass_of_methodNamed B.named
  have hlocks := B.notSynchronized
  subst hsz
  have hK := hKK.1
  have hok := KC_ok D cI
  have hD := hD0.self (sz := s.heap.size)
  generalize hAe : va_A (cw cI a g d F) s.heap.size = A at hD ⊢
  have hi3 : ∀ w ∈ wsX30, w ∈ wsX3_cycleNow := fun w h => List.mem_cons_of_mem _ (List.mem_append_left _ (List.mem_append_right _ h))
  have hi1 : ∀ w ∈ wsX10, w ∈ wsX3_cycleNow := fun w h => List.mem_cons_of_mem _ (List.mem_append_right _ h)
  have hA : ∀ q : Nat, s.heap.size ≤ q → A q := fun q h => by rw [← hAe]; exact Or.inr h
  have hS : va_S A s.heap s.heap [] := va_S.rf
  have hP : va_P D vwCl (cw cI a g d F) s.heap := hP
  have hl := lv_entry ([.ref ((a 5))]) (n := 1) (Nat.le_of_ble_eq_true rfl)
  rw [lg_entry_eq]
  generalize (lg_sl ([.ref ((a 5))]) ++ List.replicate (1 - (lg_sl ([.ref ((a 5))])).length) Slot.unset).toArray = ls at hl ⊢
  have hl : lv_has ls 1 [(0, .ref ((a 5)))] := hl
  refine lv_aload_n hx hb dX3_cycleNow_0 rfl (lv_at hl 0 rfl) ?_
  refine va_get (D := D) (ci := 3) (v := .int ((g 22))) (C := RX3) (T := TX3) (N := 7) hx hb hts hi3 hown hK hP 5 rfl rfl 2 (by decide) (hts (.fieldLink RX3 19 "GuardedCalls$Limiter" "period" "I") (by decide +kernel)) (fun _ h9 => h9) rfl dX3_cycleNow_1 ?_
  refine lv_iconst (v := 1) hx hb dX3_cycleNow_4 (by decide) ?_
  refine lv_icmp_ge (tgt := 12) hx hb dX3_cycleNow_5 (by decide) (fun c1 => ?_) (fun c1 => ?_)
  · refine lv_aload_n hx hb dX3_cycleNow_12 rfl (lv_at hl 0 rfl) ?_
    refine va_get (D := D) (ci := 3) (v := .ref ((a 2))) (C := RX3) (T := TX3) (N := 7) hx hb hts hi3 hown hK hP 5 rfl rfl 0 (by decide) (hts (.fieldLink RX3 9 "GuardedCalls$Limiter" "clock" "LGuardedCalls$Clock;") (by decide +kernel)) (fun _ h9 => h9) rfl dX3_cycleNow_13 ?_
    refine va_getN (D := D) (ci := 1) (v := .int ((g 6))) (C := RX1) (T := TX1) (N := 2) hx hb hts hi1 hown hK hP 2 rfl rfl 1 (by decide) (nw_use hKK.2 (w := .fieldLinkNest "GuardedCalls$Limiter" 42 "GuardedCalls$Clock" "now" "I" "GuardedCalls") (by decide +kernel)) (fun _ h9 => h9) rfl dX3_cycleNow_16 ?_
    refine lv_aload_n hx hb dX3_cycleNow_19 rfl (lv_at hl 0 rfl) ?_
    refine va_get (D := D) (ci := 3) (v := .int ((g 22))) (C := RX3) (T := TX3) (N := 7) hx hb hts hi3 hown hK hP 5 rfl rfl 2 (by decide) (hts (.fieldLink RX3 19 "GuardedCalls$Limiter" "period" "I") (by decide +kernel)) (fun _ h9 => h9) rfl dX3_cycleNow_20 ?_
    refine lv_idiv hx hb dX3_cycleNow_23 (fun h => by rw [h] at c1; exact absurd c1 (by decide)) ?_
    refine lv_topi (fun x2 e2 => ?_)
    exact W.iret (v := x2) hx hb hr (fun t ht hW => ⟨⟨_, (g, d, F), rfl, ⟨e2, rfl⟩, by rw [ht]; exact hP, hD⟩, hS.F ht⟩) hS.2.2 dX3_cycleNow_24
  · exact absurd (ge_1 hp) c1
set_option maxHeartbeats 4000000 in
set_option maxRecDepth 100000 in
theorem s_X3_beginCycle (l : Launch) (D : va_G) (cI : ClassId) (a : Nat → Nat) (sz : Nat) (g : Nat → Int32) (d : Nat → UInt64) (F : Nat → Nat → Int32) {bd : Nat} (hI : CI bd (upd g 25 0) d F) : Met l yX3_beginCycle wsX3_beginCycle ({ frames := 1, cells := 0, slots := 0, locals := 20 }) (gP (KC D cI) D (cw cI a g d F) sz [.ref (a 5)]) (va_Qv (fun (u : SS) => (True) ∧ CP (bd) g F u) (gB D (wfC cI a) (va_A (cw cI a g d F) sz)) (va_A (cw cI a g d F) sz)) 0 0 (va_A (cw cI a g d F) sz) := by
  refine Met.ofW (cc := cX3_beginCycle) (maxL := 1) (ret := none) (by decide) rfl ?_
  intro p e s m args below meth c s₁ B hml hv
  obtain ⟨rfl, hsz, hP, hD0, hKK⟩ := hv
  have hx := B.exec
  have hb := B.bytes
  have hr := B.returns
  have hts := atoms_spec (ws := wsX3_beginCycle) B.pre
  have hown : s.vm.findClass RX3 = some m.cls := findClass_of_methodNamed B.named
  have hlocks := B.notSynchronized
  subst hsz
  have hK := hKK.1
  have hok := KC_ok D cI
  have hD := hD0.self (sz := s.heap.size)
  generalize hAe : va_A (cw cI a g d F) s.heap.size = A at hD ⊢
  have hi3 : ∀ w ∈ wsX30, w ∈ wsX3_beginCycle := fun w h => List.mem_cons_of_mem _ (List.mem_append_left _ (List.mem_append_right _ h))
  have hi1 : ∀ w ∈ wsX10, w ∈ wsX3_beginCycle := fun w h => List.mem_cons_of_mem _ (List.mem_append_right _ h)
  have hA : ∀ q : Nat, s.heap.size ≤ q → A q := fun q h => by rw [← hAe]; exact Or.inr h
  have hS : va_S A s.heap s.heap [] := va_S.rf
  have hP : va_P D vwCl (cw cI a g d F) s.heap := hP
  have hl := lv_entry ([.ref ((a 5))]) (n := 1) (Nat.le_of_ble_eq_true rfl)
  rw [lg_entry_eq]
  generalize (lg_sl ([.ref ((a 5))]) ++ List.replicate (1 - (lg_sl ([.ref ((a 5))])).length) Slot.unset).toArray = ls at hl ⊢
  have hl : lv_has ls 1 [(0, .ref ((a 5)))] := hl
  refine lv_aload_n hx hb dX3_beginCycle_0 rfl (lv_at hl 0 rfl) ?_
  refine lv_aload_n hx hb dX3_beginCycle_1 rfl (lv_at hl 0 rfl) ?_
  refine gc_vi (As := []) (rest := [.ref ((a 5))]) (w0 := cw cI a g d F) (wc := cw cI a g d F) (wr := []) (wf := wfC cI a) ⟨hx, hb, hml, hown, hts⟩ hKK hok hP hD hS hA [0, 1, 2, 3, 4, 5, 6, 7, 8, 9, 10, 11] [] rfl rfl (by decide) (s_X3_cycleNow l D cI a _ g d F hI.2.2.2.1.1) (cwV 0 hts gX3_beginCycle_X3_cycleNow rfl rfl rfl (by decide +kernel) ⟨Nat.le_of_ble_eq_true rfl, Nat.le_of_ble_eq_true rfl⟩) (va_recv hK hP (ci := 3) (q0 := 5) rfl rfl) rfl hl.1 rfl (Nat.le_of_ble_eq_true rfl) dX3_beginCycle_2 ⟨Nat.le_of_ble_eq_true rfl, Nat.le_of_ble_eq_true rfl⟩ (fun r1 u1 H locs hw1 hP hD hS => ?_)
  obtain ⟨hr1, rfl⟩ := hw1
  have hP : va_P D vwCl (cw cI a g d F) H := hP
  have hD : va_D A (cw cI a g d F) := hD
  refine va_put (D := D) (ci := 3) (v := .int r1) (ty := .int) (C := RX3) (T := TX3) (N := 7) hx hb hts hi3 tyX3 tyX3_ok nmX3 hown hK hP hD hS 5 rfl rfl 5 (by decide) (hts (.fieldLink RX3 29 "GuardedCalls$Limiter" "cycle" "I") (by decide +kernel)) (fun _ h9 => h9) rfl (by decide +kernel) rfl rfl (Nat.le_of_ble_eq_true rfl) dX3_beginCycle_5 (fun H locs hP hD hS => ?_)
  have hP : va_P D vwCl (cw cI a (upd g 25 r1) d F) H := hP
  have hD : va_D A (cw cI a (upd g 25 r1) d F) := hD
  have hI2 : CI bd (upd g 25 r1) d F := ⟨hI.1, hI.2.1, cyc_new hr1 hI.2.1 hI.2.2.2.1, hI.2.2.2⟩
  refine lv_aload_n hx hb dX3_beginCycle_8 rfl (lv_at hl 0 rfl) ?_
  refine lv_aload_n hx hb dX3_beginCycle_9 rfl (lv_at hl 0 rfl) ?_
  refine va_get (D := D) (ci := 3) (v := .int ((g 23))) (C := RX3) (T := TX3) (N := 7) hx hb hts hi3 hown hK hP 5 rfl rfl 3 (by decide) (hts (.fieldLink RX3 23 "GuardedCalls$Limiter" "limit" "I") (by decide +kernel)) (fun _ h9 => h9) rfl dX3_beginCycle_10 ?_
  refine va_put (D := D) (ci := 3) (v := .int ((g 23))) (ty := .int) (C := RX3) (T := TX3) (N := 7) hx hb hts hi3 tyX3 tyX3_ok nmX3 hown hK hP hD hS 5 rfl rfl 6 (by decide) (hts (.fieldLink RX3 32 "GuardedCalls$Limiter" "left" "I") (by decide +kernel)) (fun _ h9 => h9) rfl (by decide +kernel) rfl rfl (Nat.le_of_ble_eq_true rfl) dX3_beginCycle_13 (fun H locs hP hD hS => ?_)
  have hP : va_P D vwCl (cw cI a (upd (upd g 25 r1) 26 ((g 23))) d F) H := hP
  have hD : va_D A (cw cI a (upd (upd g 25 r1) 26 ((g 23))) d F) := hD
  exact W.vret hx hb hr (fun t ht hW => ⟨⟨(upd (upd g 25 r1) 26 ((g 23)), d, F), rfl, ⟨trivial, hI2, rfl, rfl, rfl⟩, by rw [ht]; exact hP, hD⟩, hS.F ht⟩) hS.2.2 dX3_beginCycle_16
set_option maxHeartbeats 4000000 in
set_option maxRecDepth 100000 in
theorem s_X3_takePermit (l : Launch) (D : va_G) (cI : ClassId) (a : Nat → Nat) (sz : Nat) (g : Nat → Int32) (d : Nat → UInt64) (F : Nat → Nat → Int32) (p_dl : Int32) {bd : Nat} (hI : CI bd g d F) (hd : 0 ≤ p_dl.toInt) (hB : bd + 100 ≤ 2000000000) : Met l yX3_takePermit wsX3_takePermit ({ frames := 2, cells := 0, slots := 0, locals := 43 }) (gP (KC D cI) D (cw cI a g d F) sz [.ref (a 5), .int p_dl]) (va_Qi (fun (r : Int32) (u : SS) => (True) ∧ CP (bd + 100) g F u) (gB D (wfC cI a) (va_A (cw cI a g d F) sz)) (va_A (cw cI a g d F) sz)) 0 0 (va_A (cw cI a g d F) sz) := by
  refine Met.ofW (cc := cX3_takePermit) (maxL := 3) (ret := (some .int)) (by decide) rfl ?_
  intro p e s m args below meth c s₁ B hml hv
  obtain ⟨rfl, hsz, hP, hD0, hKK⟩ := hv
  have hx := B.exec
  have hb := B.bytes
  have hr := B.returns
  have hts := atoms_spec (ws := wsX3_takePermit) B.pre
  have hown : s.vm.findClass RX3 = some m.cls := findClass_of_methodNamed B.named
  have hlocks := B.notSynchronized
  subst hsz
  have hK := hKK.1
  have hok := KC_ok D cI
  have hD := hD0.self (sz := s.heap.size)
  generalize hAe : va_A (cw cI a g d F) s.heap.size = A at hD ⊢
  have hi3 : ∀ w ∈ wsX30, w ∈ wsX3_takePermit := fun w h => List.mem_cons_of_mem _ (List.mem_append_left _ (List.mem_append_left _ (List.mem_append_right _ h)))
  have hi1 : ∀ w ∈ wsX10, w ∈ wsX3_takePermit := fun w h => List.mem_cons_of_mem _ (List.mem_append_left _ (List.mem_append_right _ h))
  have hi2 : ∀ w ∈ wsX20, w ∈ wsX3_takePermit := fun w h => List.mem_cons_of_mem _ (List.mem_append_right _ h)
  have hA : ∀ q : Nat, s.heap.size ≤ q → A q := fun q h => by rw [← hAe]; exact Or.inr h
  have hS : va_S A s.heap s.heap [] := va_S.rf
  have hP : va_P D vwCl (cw cI a g d F) s.heap := hP
  have hl := lv_entry ([.ref ((a 5)), .int p_dl]) (n := 3) (Nat.le_of_ble_eq_true rfl)
  rw [lg_entry_eq]
  generalize (lg_sl ([.ref ((a 5)), .int p_dl]) ++ List.replicate (3 - (lg_sl ([.ref ((a 5)), .int p_dl])).length) Slot.unset).toArray = ls at hl ⊢
  have hl : lv_has ls 3 [(0, .ref ((a 5))), (1, .int p_dl)] := hl
  refine lv_aload_n hx hb dX3_takePermit_0 rfl (lv_at hl 0 rfl) ?_
  refine gc_vi (As := []) (rest := []) (w0 := cw cI a g d F) (wc := cw cI a g d F) (wr := []) (wf := wfC cI a) ⟨hx, hb, hml, hown, hts⟩ hKK hok hP hD hS hA [0, 1, 2, 3, 4, 5, 6, 7, 8, 9, 10, 11] [] rfl rfl (by decide) (s_X3_cycleNow l D cI a _ g d F hI.2.2.2.1.1) (cwV 0 hts gX3_takePermit_X3_cycleNow rfl rfl rfl (by decide +kernel) ⟨Nat.le_of_ble_eq_true rfl, Nat.le_of_ble_eq_true rfl⟩) (va_recv hK hP (ci := 3) (q0 := 5) rfl rfl) rfl hl.1 rfl (Nat.le_of_ble_eq_true rfl) dX3_takePermit_1 ⟨Nat.le_of_ble_eq_true rfl, Nat.le_of_ble_eq_true rfl⟩ (fun r1 u1 H locs hw1 hP hD hS => ?_)
  obtain ⟨hr1, rfl⟩ := hw1
  have hP : va_P D vwCl (cw cI a g d F) H := hP
  have hD : va_D A (cw cI a g d F) := hD
  refine lv_aload_n hx hb dX3_takePermit_4 rfl (lv_at hl 0 rfl) ?_
  refine va_get (D := D) (ci := 3) (v := .int ((g 25))) (C := RX3) (T := TX3) (N := 7) hx hb hts hi3 hown hK hP 5 rfl rfl 5 (by decide) (hts (.fieldLink RX3 29 "GuardedCalls$Limiter" "cycle" "I") (by decide +kernel)) (fun _ h9 => h9) rfl dX3_takePermit_5 ?_
  refine lv_icmp_le (tgt := 15) hx hb dX3_takePermit_8 (by decide) (fun c2 => ?_) (fun c2 => ?_)
  · refine lv_aload_n hx hb dX3_takePermit_15 rfl (lv_at hl 0 rfl) ?_
    refine va_get (D := D) (ci := 3) (v := .int ((g 26))) (C := RX3) (T := TX3) (N := 7) hx hb hts hi3 hown hK hP 5 rfl rfl 6 (by decide) (hts (.fieldLink RX3 32 "GuardedCalls$Limiter" "left" "I") (by decide +kernel)) (fun _ h9 => h9) rfl dX3_takePermit_16 ?_
    refine lv_iconst (v := 1) hx hb dX3_takePermit_19 (by decide) ?_
    refine lv_icmp_ge (tgt := 90) hx hb dX3_takePermit_20 (by decide) (fun c3 => ?_) (fun c3 => ?_)
    · refine lv_aload_n hx hb dX3_takePermit_90 rfl (lv_at hl 0 rfl) ?_
      refine lv_dup hx hb dX3_takePermit_91 rfl ?_
      refine va_get (D := D) (ci := 3) (v := .int ((g 26))) (C := RX3) (T := TX3) (N := 7) hx hb hts hi3 hown hK hP 5 rfl rfl 6 (by decide) (hts (.fieldLink RX3 32 "GuardedCalls$Limiter" "left" "I") (by decide +kernel)) (fun _ h9 => h9) rfl dX3_takePermit_92 ?_
      refine lv_iconst (v := 1) hx hb dX3_takePermit_95 (by decide) ?_
      refine lv_isub hx hb dX3_takePermit_96 ?_
      refine lv_topi (fun x4 e4 => ?_)
      refine va_put (D := D) (ci := 3) (v := .int x4) (ty := .int) (C := RX3) (T := TX3) (N := 7) hx hb hts hi3 tyX3 tyX3_ok nmX3 hown hK hP hD hS 5 rfl rfl 6 (by decide) (hts (.fieldLink RX3 32 "GuardedCalls$Limiter" "left" "I") (by decide +kernel)) (fun _ h9 => h9) rfl (by decide +kernel) rfl rfl (Nat.le_of_ble_eq_true rfl) dX3_takePermit_97 (fun H locs hP hD hS => ?_)
      have hP : va_P D vwCl (cw cI a (upd g 26 x4) d F) H := hP
      have hD : va_D A (cw cI a (upd g 26 x4) d F) := hD
      refine lv_iconst (v := 0) hx hb dX3_takePermit_100 (by decide) ?_
      exact W.iret (v := 0) hx hb hr (fun t ht hW => ⟨⟨_, (upd g 26 x4, d, F), rfl, ⟨trivial, (CI_mono (by omega) hI), rfl, rfl, rfl⟩, by rw [ht]; exact hP, hD⟩, hS.F ht⟩) hS.2.2 dX3_takePermit_101
    · refine lv_aload_n hx hb dX3_takePermit_23 rfl (lv_at hl 0 rfl) ?_
      refine va_get (D := D) (ci := 3) (v := .int ((g 25))) (C := RX3) (T := TX3) (N := 7) hx hb hts hi3 hown hK hP 5 rfl rfl 5 (by decide) (hts (.fieldLink RX3 29 "GuardedCalls$Limiter" "cycle" "I") (by decide +kernel)) (fun _ h9 => h9) rfl dX3_takePermit_24 ?_
      refine lv_iconst (v := 1) hx hb dX3_takePermit_27 (by decide) ?_
      refine lv_iadd hx hb dX3_takePermit_28 ?_
      refine lv_topi (fun x5 e5 => ?_)
      refine lv_aload_n hx hb dX3_takePermit_29 rfl (lv_at hl 0 rfl) ?_
      refine va_get (D := D) (ci := 3) (v := .int ((g 22))) (C := RX3) (T := TX3) (N := 7) hx hb hts hi3 hown hK hP 5 rfl rfl 2 (by decide) (hts (.fieldLink RX3 19 "GuardedCalls$Limiter" "period" "I") (by decide +kernel)) (fun _ h9 => h9) rfl dX3_takePermit_30 ?_
      refine lv_imul hx hb dX3_takePermit_33 ?_
      refine lv_topi (fun x6 e6 => ?_)
      refine lv_aload_n hx hb dX3_takePermit_34 rfl (lv_at hl 0 rfl) ?_
      refine va_get (D := D) (ci := 3) (v := .ref ((a 2))) (C := RX3) (T := TX3) (N := 7) hx hb hts hi3 hown hK hP 5 rfl rfl 0 (by decide) (hts (.fieldLink RX3 9 "GuardedCalls$Limiter" "clock" "LGuardedCalls$Clock;") (by decide +kernel)) (fun _ h9 => h9) rfl dX3_takePermit_35 ?_
      refine va_getN (D := D) (ci := 1) (v := .int ((g 6))) (C := RX1) (T := TX1) (N := 2) hx hb hts hi1 hown hK hP 2 rfl rfl 1 (by decide) (nw_use hKK.2 (w := .fieldLinkNest "GuardedCalls$Limiter" 42 "GuardedCalls$Clock" "now" "I" "GuardedCalls") (by decide +kernel)) (fun _ h9 => h9) rfl dX3_takePermit_38 ?_
      refine lv_isub hx hb dX3_takePermit_41 ?_
      refine lv_topi (fun x7 e7 => ?_)
      refine lv_istore_n (lv' := [(2, .int x7), (0, .ref ((a 5))), (1, .int p_dl)]) hx hb dX3_takePermit_42 rfl hl (by decide) rfl (fun ls hl => ?_)
      refine lv_iload_n hx hb dX3_takePermit_43 rfl (lv_at hl 0 rfl) ?_
      refine lv_aload_n hx hb dX3_takePermit_44 rfl (lv_at hl 1 rfl) ?_
      refine va_get (D := D) (ci := 3) (v := .int ((g 24))) (C := RX3) (T := TX3) (N := 7) hx hb hts hi3 hown hK hP 5 rfl rfl 4 (by decide) (hts (.fieldLink RX3 26 "GuardedCalls$Limiter" "patience" "I") (by decide +kernel)) (fun _ h9 => h9) rfl dX3_takePermit_45 ?_
      refine lv_icmp_le (tgt := 62) hx hb dX3_takePermit_48 (by decide) (fun c8 => ?_) (fun c8 => ?_)
      · refine lv_aload_n hx hb dX3_takePermit_62 rfl (lv_at hl 1 rfl) ?_
        refine va_get (D := D) (ci := 3) (v := .ref ((a 1))) (C := RX3) (T := TX3) (N := 7) hx hb hts hi3 hown hK hP 5 rfl rfl 1 (by decide) (hts (.fieldLink RX3 15 "GuardedCalls$Limiter" "events" "LGuardedCalls$Events;") (by decide +kernel)) (fun _ h9 => h9) rfl dX3_takePermit_63 ?_
        refine lv_bipush (v := 22) hx hb dX3_takePermit_66 (by decide) ?_
        refine gc_vv (As := [.int 22]) (rest := []) (w0 := cw cI a g d F) (wc := cw cI a g d F) (wr := []) (wf := wfC cI a) ⟨hx, hb, hml, hown, hts⟩ hKK hok hP hD hS hA [0, 1, 2, 3, 4, 5, 6, 7, 8, 9, 10, 11] [] rfl rfl (by decide) (s_X2_add l D cI a _ g d F 22 hI) (cwV 1 hts gX3_takePermit_X2_add rfl rfl rfl (by decide +kernel) ⟨Nat.le_of_ble_eq_true rfl, Nat.le_of_ble_eq_true rfl⟩) (va_recv hK hP (ci := 2) (q0 := 1) rfl rfl) rfl hl.1 rfl (Nat.le_of_ble_eq_true rfl) dX3_takePermit_68 ⟨Nat.le_of_ble_eq_true rfl, Nat.le_of_ble_eq_true rfl⟩ (fun u9 H locs hw9 hP hD hS => ?_)
        obtain ⟨g9, d9, F9⟩ := u9
        have hP : va_P D vwCl (cw cI a g9 d9 F9) H := hP
        have hD : va_D A (cw cI a g9 d9 F9) := hD
        refine lv_aload_n hx hb dX3_takePermit_71 rfl (lv_at hl 1 rfl) ?_
        refine va_get (D := D) (ci := 3) (v := .ref ((a 2))) (C := RX3) (T := TX3) (N := 7) hx hb hts hi3 hown hK hP 5 rfl rfl 0 (by decide) (hts (.fieldLink RX3 9 "GuardedCalls$Limiter" "clock" "LGuardedCalls$Clock;") (by decide +kernel)) (fun _ h9 => h9) rfl dX3_takePermit_72 ?_
        refine lv_iload_n hx hb dX3_takePermit_75 rfl (lv_at hl 0 rfl) ?_
        refine lv_iload_n hx hb dX3_takePermit_76 rfl (lv_at hl 2 rfl) ?_
        refine gc_vi (As := [.int x7, .int p_dl]) (rest := []) (w0 := cw cI a g9 d9 F9) (wc := cw cI a g9 d9 F9) (wr := []) (wf := wfC cI a) ⟨hx, hb, hml, hown, hts⟩ hKK hok hP hD hS hA [0, 1, 2, 3, 4, 5, 6, 7, 8, 9, 10, 11] [] rfl rfl (by decide) (s_X1_lapse l D cI a _ g9 d9 F9 x7 p_dl (bd + 100) hw9.2.1 (Nat.le_add_right _ _) hB hd (tick_rng hI hB e5 e6 e7 c8 hw9.1)) (cwV 2 hts gX3_takePermit_X1_lapse rfl rfl rfl (by decide +kernel) ⟨Nat.le_of_ble_eq_true rfl, Nat.le_of_ble_eq_true rfl⟩) (va_recv hK hP (ci := 1) (q0 := 2) rfl rfl) rfl hl.1 rfl (Nat.le_of_ble_eq_true rfl) dX3_takePermit_77 ⟨Nat.le_of_ble_eq_true rfl, Nat.le_of_ble_eq_true rfl⟩ (fun r10 u10 H locs hw10 hP hD hS => ?_)
        obtain ⟨g10, d10, F10⟩ := u10
        have hP : va_P D vwCl (cw cI a g10 d10 F10) H := hP
        have hD : va_D A (cw cI a g10 d10 F10) := hD
        refine lv_if_ne (tgt := 86) hx hb dX3_takePermit_80 (by decide) (fun c11 => ?_) (fun c11 => ?_)
        · refine lv_aload_n hx hb dX3_takePermit_86 rfl (lv_at hl 1 rfl) ?_
          refine gc_vv (As := []) (rest := []) (w0 := cw cI a g10 d10 F10) (wc := cw cI a g10 d10 F10) (wr := []) (wf := wfC cI a) ⟨hx, hb, hml, hown, hts⟩ hKK hok hP hD hS hA [0, 1, 2, 3, 4, 5, 6, 7, 8, 9, 10, 11] [] rfl rfl (by decide) (s_X3_beginCycle l D cI a _ g10 d10 F10 (CI_c0 hw10.2.1)) (cwV 0 hts gX3_takePermit_X3_beginCycle rfl rfl rfl (by decide +kernel) ⟨Nat.le_of_ble_eq_true rfl, Nat.le_of_ble_eq_true rfl⟩) (va_recv hK hP (ci := 3) (q0 := 5) rfl rfl) rfl hl.1 rfl (Nat.le_of_ble_eq_true rfl) dX3_takePermit_87 ⟨Nat.le_of_ble_eq_true rfl, Nat.le_of_ble_eq_true rfl⟩ (fun u12 H locs hw12 hP hD hS => ?_)
          obtain ⟨g12, d12, F12⟩ := u12
          have hP : va_P D vwCl (cw cI a g12 d12 F12) H := hP
          have hD : va_D A (cw cI a g12 d12 F12) := hD
          refine lv_aload_n hx hb dX3_takePermit_90 rfl (lv_at hl 1 rfl) ?_
          refine lv_dup hx hb dX3_takePermit_91 rfl ?_
          refine va_get (D := D) (ci := 3) (v := .int ((g12 26))) (C := RX3) (T := TX3) (N := 7) hx hb hts hi3 hown hK hP 5 rfl rfl 6 (by decide) (hts (.fieldLink RX3 32 "GuardedCalls$Limiter" "left" "I") (by decide +kernel)) (fun _ h9 => h9) rfl dX3_takePermit_92 ?_
          refine lv_iconst (v := 1) hx hb dX3_takePermit_95 (by decide) ?_
          refine lv_isub hx hb dX3_takePermit_96 ?_
          refine lv_topi (fun x13 e13 => ?_)
          refine va_put (D := D) (ci := 3) (v := .int x13) (ty := .int) (C := RX3) (T := TX3) (N := 7) hx hb hts hi3 tyX3 tyX3_ok nmX3 hown hK hP hD hS 5 rfl rfl 6 (by decide) (hts (.fieldLink RX3 32 "GuardedCalls$Limiter" "left" "I") (by decide +kernel)) (fun _ h9 => h9) rfl (by decide +kernel) rfl rfl (Nat.le_of_ble_eq_true rfl) dX3_takePermit_97 (fun H locs hP hD hS => ?_)
          have hP : va_P D vwCl (cw cI a (upd g12 26 x13) d12 F12) H := hP
          have hD : va_D A (cw cI a (upd g12 26 x13) d12 F12) := hD
          refine lv_iconst (v := 0) hx hb dX3_takePermit_100 (by decide) ?_
          exact W.iret (v := 0) hx hb hr (fun t ht hW => ⟨⟨_, (upd g12 26 x13, d12, F12), rfl, ⟨trivial, (CI_mono (by omega) hw12.2.1), (hw12.2.2.1.trans (hw10.2.2.1.trans hw9.2.2.1)), (hw12.2.2.2.1.trans (hw10.2.2.2.1.trans hw9.2.2.2.1)), (hw12.2.2.2.2.trans (hw10.2.2.2.2.trans hw9.2.2.2.2))⟩, by rw [ht]; exact hP, hD⟩, hS.F ht⟩) hS.2.2 dX3_takePermit_101
        · refine lv_bipush (v := 8) hx hb dX3_takePermit_83 (by decide) ?_
          exact W.iret (v := 8) hx hb hr (fun t ht hW => ⟨⟨_, (g10, d10, F10), rfl, ⟨trivial, (CI_mono (by omega) hw10.2.1), (hw10.2.2.1.trans hw9.2.2.1), (hw10.2.2.2.1.trans hw9.2.2.2.1), (hw10.2.2.2.2.trans hw9.2.2.2.2)⟩, by rw [ht]; exact hP, hD⟩, hS.F ht⟩) hS.2.2 dX3_takePermit_85
      · refine lv_aload_n hx hb dX3_takePermit_51 rfl (lv_at hl 1 rfl) ?_
        refine va_get (D := D) (ci := 3) (v := .ref ((a 1))) (C := RX3) (T := TX3) (N := 7) hx hb hts hi3 hown hK hP 5 rfl rfl 1 (by decide) (hts (.fieldLink RX3 15 "GuardedCalls$Limiter" "events" "LGuardedCalls$Events;") (by decide +kernel)) (fun _ h9 => h9) rfl dX3_takePermit_52 ?_
        refine lv_bipush (v := 21) hx hb dX3_takePermit_55 (by decide) ?_
        refine gc_vv (As := [.int 21]) (rest := []) (w0 := cw cI a g d F) (wc := cw cI a g d F) (wr := []) (wf := wfC cI a) ⟨hx, hb, hml, hown, hts⟩ hKK hok hP hD hS hA [0, 1, 2, 3, 4, 5, 6, 7, 8, 9, 10, 11] [] rfl rfl (by decide) (s_X2_add l D cI a _ g d F 21 hI) (cwV 1 hts gX3_takePermit_X2_add rfl rfl rfl (by decide +kernel) ⟨Nat.le_of_ble_eq_true rfl, Nat.le_of_ble_eq_true rfl⟩) (va_recv hK hP (ci := 2) (q0 := 1) rfl rfl) rfl hl.1 rfl (Nat.le_of_ble_eq_true rfl) dX3_takePermit_57 ⟨Nat.le_of_ble_eq_true rfl, Nat.le_of_ble_eq_true rfl⟩ (fun u14 H locs hw14 hP hD hS => ?_)
        obtain ⟨g14, d14, F14⟩ := u14
        have hP : va_P D vwCl (cw cI a g14 d14 F14) H := hP
        have hD : va_D A (cw cI a g14 d14 F14) := hD
        refine lv_iconst (v := 4) hx hb dX3_takePermit_60 (by decide) ?_
        exact W.iret (v := 4) hx hb hr (fun t ht hW => ⟨⟨_, (g14, d14, F14), rfl, ⟨trivial, (CI_mono (by omega) hw14.2.1), hw14.2.2.1, hw14.2.2.2.1, hw14.2.2.2.2⟩, by rw [ht]; exact hP, hD⟩, hS.F ht⟩) hS.2.2 dX3_takePermit_61
  · refine lv_aload_n hx hb dX3_takePermit_11 rfl (lv_at hl 0 rfl) ?_
    refine gc_vv (As := []) (rest := []) (w0 := cw cI a g d F) (wc := cw cI a g d F) (wr := []) (wf := wfC cI a) ⟨hx, hb, hml, hown, hts⟩ hKK hok hP hD hS hA [0, 1, 2, 3, 4, 5, 6, 7, 8, 9, 10, 11] [] rfl rfl (by decide) (s_X3_beginCycle l D cI a _ g d F (CI_c0 hI)) (cwV 0 hts gX3_takePermit_X3_beginCycle rfl rfl rfl (by decide +kernel) ⟨Nat.le_of_ble_eq_true rfl, Nat.le_of_ble_eq_true rfl⟩) (va_recv hK hP (ci := 3) (q0 := 5) rfl rfl) rfl hl.1 rfl (Nat.le_of_ble_eq_true rfl) dX3_takePermit_12 ⟨Nat.le_of_ble_eq_true rfl, Nat.le_of_ble_eq_true rfl⟩ (fun u15 H locs hw15 hP hD hS => ?_)
    obtain ⟨g15, d15, F15⟩ := u15
    have hP : va_P D vwCl (cw cI a g15 d15 F15) H := hP
    have hD : va_D A (cw cI a g15 d15 F15) := hD
    refine lv_aload_n hx hb dX3_takePermit_15 rfl (lv_at hl 0 rfl) ?_
    refine va_get (D := D) (ci := 3) (v := .int ((g15 26))) (C := RX3) (T := TX3) (N := 7) hx hb hts hi3 hown hK hP 5 rfl rfl 6 (by decide) (hts (.fieldLink RX3 32 "GuardedCalls$Limiter" "left" "I") (by decide +kernel)) (fun _ h9 => h9) rfl dX3_takePermit_16 ?_
    refine lv_iconst (v := 1) hx hb dX3_takePermit_19 (by decide) ?_
    refine lv_icmp_ge (tgt := 90) hx hb dX3_takePermit_20 (by decide) (fun c16 => ?_) (fun c16 => ?_)
    · refine lv_aload_n hx hb dX3_takePermit_90 rfl (lv_at hl 0 rfl) ?_
      refine lv_dup hx hb dX3_takePermit_91 rfl ?_
      refine va_get (D := D) (ci := 3) (v := .int ((g15 26))) (C := RX3) (T := TX3) (N := 7) hx hb hts hi3 hown hK hP 5 rfl rfl 6 (by decide) (hts (.fieldLink RX3 32 "GuardedCalls$Limiter" "left" "I") (by decide +kernel)) (fun _ h9 => h9) rfl dX3_takePermit_92 ?_
      refine lv_iconst (v := 1) hx hb dX3_takePermit_95 (by decide) ?_
      refine lv_isub hx hb dX3_takePermit_96 ?_
      refine lv_topi (fun x17 e17 => ?_)
      refine va_put (D := D) (ci := 3) (v := .int x17) (ty := .int) (C := RX3) (T := TX3) (N := 7) hx hb hts hi3 tyX3 tyX3_ok nmX3 hown hK hP hD hS 5 rfl rfl 6 (by decide) (hts (.fieldLink RX3 32 "GuardedCalls$Limiter" "left" "I") (by decide +kernel)) (fun _ h9 => h9) rfl (by decide +kernel) rfl rfl (Nat.le_of_ble_eq_true rfl) dX3_takePermit_97 (fun H locs hP hD hS => ?_)
      have hP : va_P D vwCl (cw cI a (upd g15 26 x17) d15 F15) H := hP
      have hD : va_D A (cw cI a (upd g15 26 x17) d15 F15) := hD
      refine lv_iconst (v := 0) hx hb dX3_takePermit_100 (by decide) ?_
      exact W.iret (v := 0) hx hb hr (fun t ht hW => ⟨⟨_, (upd g15 26 x17, d15, F15), rfl, ⟨trivial, (CI_mono (by omega) hw15.2.1), hw15.2.2.1, hw15.2.2.2.1, hw15.2.2.2.2⟩, by rw [ht]; exact hP, hD⟩, hS.F ht⟩) hS.2.2 dX3_takePermit_101
    · refine lv_aload_n hx hb dX3_takePermit_23 rfl (lv_at hl 0 rfl) ?_
      refine va_get (D := D) (ci := 3) (v := .int ((g15 25))) (C := RX3) (T := TX3) (N := 7) hx hb hts hi3 hown hK hP 5 rfl rfl 5 (by decide) (hts (.fieldLink RX3 29 "GuardedCalls$Limiter" "cycle" "I") (by decide +kernel)) (fun _ h9 => h9) rfl dX3_takePermit_24 ?_
      refine lv_iconst (v := 1) hx hb dX3_takePermit_27 (by decide) ?_
      refine lv_iadd hx hb dX3_takePermit_28 ?_
      refine lv_topi (fun x18 e18 => ?_)
      refine lv_aload_n hx hb dX3_takePermit_29 rfl (lv_at hl 0 rfl) ?_
      refine va_get (D := D) (ci := 3) (v := .int ((g15 22))) (C := RX3) (T := TX3) (N := 7) hx hb hts hi3 hown hK hP 5 rfl rfl 2 (by decide) (hts (.fieldLink RX3 19 "GuardedCalls$Limiter" "period" "I") (by decide +kernel)) (fun _ h9 => h9) rfl dX3_takePermit_30 ?_
      refine lv_imul hx hb dX3_takePermit_33 ?_
      refine lv_topi (fun x19 e19 => ?_)
      refine lv_aload_n hx hb dX3_takePermit_34 rfl (lv_at hl 0 rfl) ?_
      refine va_get (D := D) (ci := 3) (v := .ref ((a 2))) (C := RX3) (T := TX3) (N := 7) hx hb hts hi3 hown hK hP 5 rfl rfl 0 (by decide) (hts (.fieldLink RX3 9 "GuardedCalls$Limiter" "clock" "LGuardedCalls$Clock;") (by decide +kernel)) (fun _ h9 => h9) rfl dX3_takePermit_35 ?_
      refine va_getN (D := D) (ci := 1) (v := .int ((g15 6))) (C := RX1) (T := TX1) (N := 2) hx hb hts hi1 hown hK hP 2 rfl rfl 1 (by decide) (nw_use hKK.2 (w := .fieldLinkNest "GuardedCalls$Limiter" 42 "GuardedCalls$Clock" "now" "I" "GuardedCalls") (by decide +kernel)) (fun _ h9 => h9) rfl dX3_takePermit_38 ?_
      refine lv_isub hx hb dX3_takePermit_41 ?_
      refine lv_topi (fun x20 e20 => ?_)
      refine lv_istore_n (lv' := [(2, .int x20), (0, .ref ((a 5))), (1, .int p_dl)]) hx hb dX3_takePermit_42 rfl hl (by decide) rfl (fun ls hl => ?_)
      refine lv_iload_n hx hb dX3_takePermit_43 rfl (lv_at hl 0 rfl) ?_
      refine lv_aload_n hx hb dX3_takePermit_44 rfl (lv_at hl 1 rfl) ?_
      refine va_get (D := D) (ci := 3) (v := .int ((g15 24))) (C := RX3) (T := TX3) (N := 7) hx hb hts hi3 hown hK hP 5 rfl rfl 4 (by decide) (hts (.fieldLink RX3 26 "GuardedCalls$Limiter" "patience" "I") (by decide +kernel)) (fun _ h9 => h9) rfl dX3_takePermit_45 ?_
      refine lv_icmp_le (tgt := 62) hx hb dX3_takePermit_48 (by decide) (fun c21 => ?_) (fun c21 => ?_)
      · refine lv_aload_n hx hb dX3_takePermit_62 rfl (lv_at hl 1 rfl) ?_
        refine va_get (D := D) (ci := 3) (v := .ref ((a 1))) (C := RX3) (T := TX3) (N := 7) hx hb hts hi3 hown hK hP 5 rfl rfl 1 (by decide) (hts (.fieldLink RX3 15 "GuardedCalls$Limiter" "events" "LGuardedCalls$Events;") (by decide +kernel)) (fun _ h9 => h9) rfl dX3_takePermit_63 ?_
        refine lv_bipush (v := 22) hx hb dX3_takePermit_66 (by decide) ?_
        refine gc_vv (As := [.int 22]) (rest := []) (w0 := cw cI a g15 d15 F15) (wc := cw cI a g15 d15 F15) (wr := []) (wf := wfC cI a) ⟨hx, hb, hml, hown, hts⟩ hKK hok hP hD hS hA [0, 1, 2, 3, 4, 5, 6, 7, 8, 9, 10, 11] [] rfl rfl (by decide) (s_X2_add l D cI a _ g15 d15 F15 22 hw15.2.1) (cwV 1 hts gX3_takePermit_X2_add rfl rfl rfl (by decide +kernel) ⟨Nat.le_of_ble_eq_true rfl, Nat.le_of_ble_eq_true rfl⟩) (va_recv hK hP (ci := 2) (q0 := 1) rfl rfl) rfl hl.1 rfl (Nat.le_of_ble_eq_true rfl) dX3_takePermit_68 ⟨Nat.le_of_ble_eq_true rfl, Nat.le_of_ble_eq_true rfl⟩ (fun u22 H locs hw22 hP hD hS => ?_)
        obtain ⟨g22, d22, F22⟩ := u22
        have hP : va_P D vwCl (cw cI a g22 d22 F22) H := hP
        have hD : va_D A (cw cI a g22 d22 F22) := hD
        refine lv_aload_n hx hb dX3_takePermit_71 rfl (lv_at hl 1 rfl) ?_
        refine va_get (D := D) (ci := 3) (v := .ref ((a 2))) (C := RX3) (T := TX3) (N := 7) hx hb hts hi3 hown hK hP 5 rfl rfl 0 (by decide) (hts (.fieldLink RX3 9 "GuardedCalls$Limiter" "clock" "LGuardedCalls$Clock;") (by decide +kernel)) (fun _ h9 => h9) rfl dX3_takePermit_72 ?_
        refine lv_iload_n hx hb dX3_takePermit_75 rfl (lv_at hl 0 rfl) ?_
        refine lv_iload_n hx hb dX3_takePermit_76 rfl (lv_at hl 2 rfl) ?_
        refine gc_vi (As := [.int x20, .int p_dl]) (rest := []) (w0 := cw cI a g22 d22 F22) (wc := cw cI a g22 d22 F22) (wr := []) (wf := wfC cI a) ⟨hx, hb, hml, hown, hts⟩ hKK hok hP hD hS hA [0, 1, 2, 3, 4, 5, 6, 7, 8, 9, 10, 11] [] rfl rfl (by decide) (s_X1_lapse l D cI a _ g22 d22 F22 x20 p_dl (bd + 100) hw22.2.1 (Nat.le_add_right _ _) hB hd (tick_rng hw15.2.1 hB e18 e19 e20 c21 hw22.1)) (cwV 2 hts gX3_takePermit_X1_lapse rfl rfl rfl (by decide +kernel) ⟨Nat.le_of_ble_eq_true rfl, Nat.le_of_ble_eq_true rfl⟩) (va_recv hK hP (ci := 1) (q0 := 2) rfl rfl) rfl hl.1 rfl (Nat.le_of_ble_eq_true rfl) dX3_takePermit_77 ⟨Nat.le_of_ble_eq_true rfl, Nat.le_of_ble_eq_true rfl⟩ (fun r23 u23 H locs hw23 hP hD hS => ?_)
        obtain ⟨g23, d23, F23⟩ := u23
        have hP : va_P D vwCl (cw cI a g23 d23 F23) H := hP
        have hD : va_D A (cw cI a g23 d23 F23) := hD
        refine lv_if_ne (tgt := 86) hx hb dX3_takePermit_80 (by decide) (fun c24 => ?_) (fun c24 => ?_)
        · refine lv_aload_n hx hb dX3_takePermit_86 rfl (lv_at hl 1 rfl) ?_
          refine gc_vv (As := []) (rest := []) (w0 := cw cI a g23 d23 F23) (wc := cw cI a g23 d23 F23) (wr := []) (wf := wfC cI a) ⟨hx, hb, hml, hown, hts⟩ hKK hok hP hD hS hA [0, 1, 2, 3, 4, 5, 6, 7, 8, 9, 10, 11] [] rfl rfl (by decide) (s_X3_beginCycle l D cI a _ g23 d23 F23 (CI_c0 hw23.2.1)) (cwV 0 hts gX3_takePermit_X3_beginCycle rfl rfl rfl (by decide +kernel) ⟨Nat.le_of_ble_eq_true rfl, Nat.le_of_ble_eq_true rfl⟩) (va_recv hK hP (ci := 3) (q0 := 5) rfl rfl) rfl hl.1 rfl (Nat.le_of_ble_eq_true rfl) dX3_takePermit_87 ⟨Nat.le_of_ble_eq_true rfl, Nat.le_of_ble_eq_true rfl⟩ (fun u25 H locs hw25 hP hD hS => ?_)
          obtain ⟨g25, d25, F25⟩ := u25
          have hP : va_P D vwCl (cw cI a g25 d25 F25) H := hP
          have hD : va_D A (cw cI a g25 d25 F25) := hD
          refine lv_aload_n hx hb dX3_takePermit_90 rfl (lv_at hl 1 rfl) ?_
          refine lv_dup hx hb dX3_takePermit_91 rfl ?_
          refine va_get (D := D) (ci := 3) (v := .int ((g25 26))) (C := RX3) (T := TX3) (N := 7) hx hb hts hi3 hown hK hP 5 rfl rfl 6 (by decide) (hts (.fieldLink RX3 32 "GuardedCalls$Limiter" "left" "I") (by decide +kernel)) (fun _ h9 => h9) rfl dX3_takePermit_92 ?_
          refine lv_iconst (v := 1) hx hb dX3_takePermit_95 (by decide) ?_
          refine lv_isub hx hb dX3_takePermit_96 ?_
          refine lv_topi (fun x26 e26 => ?_)
          refine va_put (D := D) (ci := 3) (v := .int x26) (ty := .int) (C := RX3) (T := TX3) (N := 7) hx hb hts hi3 tyX3 tyX3_ok nmX3 hown hK hP hD hS 5 rfl rfl 6 (by decide) (hts (.fieldLink RX3 32 "GuardedCalls$Limiter" "left" "I") (by decide +kernel)) (fun _ h9 => h9) rfl (by decide +kernel) rfl rfl (Nat.le_of_ble_eq_true rfl) dX3_takePermit_97 (fun H locs hP hD hS => ?_)
          have hP : va_P D vwCl (cw cI a (upd g25 26 x26) d25 F25) H := hP
          have hD : va_D A (cw cI a (upd g25 26 x26) d25 F25) := hD
          refine lv_iconst (v := 0) hx hb dX3_takePermit_100 (by decide) ?_
          exact W.iret (v := 0) hx hb hr (fun t ht hW => ⟨⟨_, (upd g25 26 x26, d25, F25), rfl, ⟨trivial, (CI_mono (by omega) hw25.2.1), (hw25.2.2.1.trans (hw23.2.2.1.trans (hw22.2.2.1.trans hw15.2.2.1))), (hw25.2.2.2.1.trans (hw23.2.2.2.1.trans (hw22.2.2.2.1.trans hw15.2.2.2.1))), (hw25.2.2.2.2.trans (hw23.2.2.2.2.trans (hw22.2.2.2.2.trans hw15.2.2.2.2)))⟩, by rw [ht]; exact hP, hD⟩, hS.F ht⟩) hS.2.2 dX3_takePermit_101
        · refine lv_bipush (v := 8) hx hb dX3_takePermit_83 (by decide) ?_
          exact W.iret (v := 8) hx hb hr (fun t ht hW => ⟨⟨_, (g23, d23, F23), rfl, ⟨trivial, (CI_mono (by omega) hw23.2.1), (hw23.2.2.1.trans (hw22.2.2.1.trans hw15.2.2.1)), (hw23.2.2.2.1.trans (hw22.2.2.2.1.trans hw15.2.2.2.1)), (hw23.2.2.2.2.trans (hw22.2.2.2.2.trans hw15.2.2.2.2))⟩, by rw [ht]; exact hP, hD⟩, hS.F ht⟩) hS.2.2 dX3_takePermit_85
      · refine lv_aload_n hx hb dX3_takePermit_51 rfl (lv_at hl 1 rfl) ?_
        refine va_get (D := D) (ci := 3) (v := .ref ((a 1))) (C := RX3) (T := TX3) (N := 7) hx hb hts hi3 hown hK hP 5 rfl rfl 1 (by decide) (hts (.fieldLink RX3 15 "GuardedCalls$Limiter" "events" "LGuardedCalls$Events;") (by decide +kernel)) (fun _ h9 => h9) rfl dX3_takePermit_52 ?_
        refine lv_bipush (v := 21) hx hb dX3_takePermit_55 (by decide) ?_
        refine gc_vv (As := [.int 21]) (rest := []) (w0 := cw cI a g15 d15 F15) (wc := cw cI a g15 d15 F15) (wr := []) (wf := wfC cI a) ⟨hx, hb, hml, hown, hts⟩ hKK hok hP hD hS hA [0, 1, 2, 3, 4, 5, 6, 7, 8, 9, 10, 11] [] rfl rfl (by decide) (s_X2_add l D cI a _ g15 d15 F15 21 hw15.2.1) (cwV 1 hts gX3_takePermit_X2_add rfl rfl rfl (by decide +kernel) ⟨Nat.le_of_ble_eq_true rfl, Nat.le_of_ble_eq_true rfl⟩) (va_recv hK hP (ci := 2) (q0 := 1) rfl rfl) rfl hl.1 rfl (Nat.le_of_ble_eq_true rfl) dX3_takePermit_57 ⟨Nat.le_of_ble_eq_true rfl, Nat.le_of_ble_eq_true rfl⟩ (fun u27 H locs hw27 hP hD hS => ?_)
        obtain ⟨g27, d27, F27⟩ := u27
        have hP : va_P D vwCl (cw cI a g27 d27 F27) H := hP
        have hD : va_D A (cw cI a g27 d27 F27) := hD
        refine lv_iconst (v := 4) hx hb dX3_takePermit_60 (by decide) ?_
        exact W.iret (v := 4) hx hb hr (fun t ht hW => ⟨⟨_, (g27, d27, F27), rfl, ⟨trivial, (CI_mono (by omega) hw27.2.1), (hw27.2.2.1.trans hw15.2.2.1), (hw27.2.2.2.1.trans hw15.2.2.2.1), (hw27.2.2.2.2.trans hw15.2.2.2.2)⟩, by rw [ht]; exact hP, hD⟩, hS.F ht⟩) hS.2.2 dX3_takePermit_61
set_option maxHeartbeats 4000000 in
set_option maxRecDepth 100000 in
theorem s_X4_isAgain (l : Launch) (D : va_G) (cI : ClassId) (a : Nat → Nat) (sz : Nat) (g : Nat → Int32) (d : Nat → UInt64) (F : Nat → Nat → Int32) (p_c : Int32) : Met l yX4_isAgain wsX4_isAgain ({ frames := 0, cells := 0, slots := 0, locals := 0 }) (gP (KC D cI) D (cw cI a g d F) sz [.ref (a 6), .int p_c]) (va_Qi (fun (r : Int32) (u : SS) => u = (g, d, F)) (gB D (wfC cI a) (va_A (cw cI a g d F) sz)) (va_A (cw cI a g d F) sz)) 0 0 (va_A (cw cI a g d F) sz) := by
  refine Met.ofW (cc := cX4_isAgain) (maxL := 2) (ret := (some .boolean)) (by decide) rfl ?_
  intro p e s m args below meth c s₁ B hml hv
  obtain ⟨rfl, hsz, hP, hD0, hKK⟩ := hv
  have hx := B.exec
  have hb := B.bytes
  have hr := B.returns
  have hts := atoms_spec (ws := wsX4_isAgain) B.pre
  have hown : s.vm.findClass RX4 = some m.cls := findClass_of_methodNamed B.named
  have hlocks := B.notSynchronized
  subst hsz
  have hK := hKK.1
  have hok := KC_ok D cI
  have hD := hD0.self (sz := s.heap.size)
  generalize hAe : va_A (cw cI a g d F) s.heap.size = A at hD ⊢
  have hi4 : ∀ w ∈ wsX40, w ∈ wsX4_isAgain := fun w h => List.mem_cons_of_mem _ (List.mem_append_right _ h)
  have hA : ∀ q : Nat, s.heap.size ≤ q → A q := fun q h => by rw [← hAe]; exact Or.inr h
  have hS : va_S A s.heap s.heap [] := va_S.rf
  have hP : va_P D vwCl (cw cI a g d F) s.heap := hP
  have hl := lv_entry ([.ref ((a 6)), .int p_c]) (n := 2) (Nat.le_of_ble_eq_true rfl)
  rw [lg_entry_eq]
  generalize (lg_sl ([.ref ((a 6)), .int p_c]) ++ List.replicate (2 - (lg_sl ([.ref ((a 6)), .int p_c])).length) Slot.unset).toArray = ls at hl ⊢
  have hl : lv_has ls 2 [(0, .ref ((a 6))), (1, .int p_c)] := hl
  refine lv_iload_n hx hb dX4_isAgain_0 rfl (lv_at hl 1 rfl) ?_
  refine lv_aload_n hx hb dX4_isAgain_1 rfl (lv_at hl 0 rfl) ?_
  refine va_get (D := D) (ci := 4) (v := .int ((g 28))) (C := RX4) (T := TX4) (N := 5) hx hb hts hi4 hown hK hP 6 rfl rfl 1 (by decide) (hts (.fieldLink RX4 15 "GuardedCalls$Retry" "again" "I") (by decide +kernel)) (fun _ h9 => h9) rfl dX4_isAgain_2 ?_
  refine lv_iand hx hb dX4_isAgain_5 ?_
  refine lv_topi (fun x1 e1 => ?_)
  refine lv_if_eq (tgt := 13) hx hb dX4_isAgain_6 (by decide) (fun c2 => ?_) (fun c2 => ?_)
  · refine lv_iconst (v := 0) hx hb dX4_isAgain_13 (by decide) ?_
    exact W.zret (v := 0) hx hb hr (rfl) (fun t ht hW => ⟨⟨_, (g, d, F), rfl, rfl, by rw [ht]; exact hP, hD⟩, hS.F ht⟩) hS.2.2 dX4_isAgain_14
  · refine lv_iconst (v := 1) hx hb dX4_isAgain_9 (by decide) ?_
    refine lv_goto (tgt := 14) hx hb dX4_isAgain_10 (by decide) ?_
    exact W.zret (v := 1) hx hb hr (rfl) (fun t ht hW => ⟨⟨_, (g, d, F), rfl, rfl, by rw [ht]; exact hP, hD⟩, hS.F ht⟩) hS.2.2 dX4_isAgain_14
set_option maxHeartbeats 4000000 in
set_option maxRecDepth 100000 in
theorem s_X4_ticksAfter (l : Launch) (D : va_G) (cI : ClassId) (a : Nat → Nat) (sz : Nat) (g : Nat → Int32) (d : Nat → UInt64) (F : Nat → Nat → Int32) (p_k : Int32) {bd : Nat} (hI : CI bd g d F) : Met l yX4_ticksAfter wsX4_ticksAfter ({ frames := 0, cells := 0, slots := 0, locals := 0 }) (gP (KC D cI) D (cw cI a g d F) sz [.ref (a 6), .int p_k]) (va_Qi (fun (r : Int32) (u : SS) => (0 ≤ r.toInt ∧ r.toInt ≤ 100) ∧ u = (g, d, F)) (gB D (wfC cI a) (va_A (cw cI a g d F) sz)) (va_A (cw cI a g d F) sz)) 0 0 (va_A (cw cI a g d F) sz) := by
  refine Met.ofW (cc := cX4_ticksAfter) (maxL := 5) (ret := (some .int)) (by decide) rfl ?_
  intro p e s m args below meth c s₁ B hml hv
  obtain ⟨rfl, hsz, hP, hD0, hKK⟩ := hv
  have hx := B.exec
  have hb := B.bytes
  have hr := B.returns
  have hts := atoms_spec (ws := wsX4_ticksAfter) B.pre
  have hown : s.vm.findClass RX4 = some m.cls := findClass_of_methodNamed B.named
  have hlocks := B.notSynchronized
  subst hsz
  have hK := hKK.1
  have hok := KC_ok D cI
  have hD := hD0.self (sz := s.heap.size)
  generalize hAe : va_A (cw cI a g d F) s.heap.size = A at hD ⊢
  have hi4 : ∀ w ∈ wsX40, w ∈ wsX4_ticksAfter := fun w h => List.mem_cons_of_mem _ (List.mem_append_right _ h)
  have hA : ∀ q : Nat, s.heap.size ≤ q → A q := fun q h => by rw [← hAe]; exact Or.inr h
  have hS : va_S A s.heap s.heap [] := va_S.rf
  have hP : va_P D vwCl (cw cI a g d F) s.heap := hP
  have hl := lv_entry ([.ref ((a 6)), .int p_k]) (n := 5) (Nat.le_of_ble_eq_true rfl)
  rw [lg_entry_eq]
  generalize (lg_sl ([.ref ((a 6)), .int p_k]) ++ List.replicate (5 - (lg_sl ([.ref ((a 6)), .int p_k])).length) Slot.unset).toArray = ls at hl ⊢
  have hl : lv_has ls 5 [(0, .ref ((a 6))), (1, .int p_k)] := hl
  refine lv_aload_n hx hb dX4_ticksAfter_0 rfl (lv_at hl 0 rfl) ?_
  refine va_get (D := D) (ci := 4) (v := .double ((d 2))) (C := RX4) (T := TX4) (N := 5) hx hb hts hi4 hown hK hP 6 rfl rfl 2 (by decide) (hts (.fieldLink RX4 18 "GuardedCalls$Retry" "first" "D") (by decide +kernel)) (fun _ h9 => h9) rfl dX4_ticksAfter_1 ?_
  refine lv_dstore_n (lv' := [(2, .double ((d 2))), (0, .ref ((a 6))), (1, .int p_k)]) hx hb dX4_ticksAfter_4 rfl hl (by decide) rfl (fun ls hl => ?_)
  refine lv_iconst (v := 1) hx hb dX4_ticksAfter_5 (by decide) ?_
  refine lv_istore (lv' := [(4, .int 1), (2, .double ((d 2))), (0, .ref ((a 6))), (1, .int p_k)]) hx hb dX4_ticksAfter_6 hl (by decide) rfl (fun ls hl => ?_)
  refine gl_loop (σ := UInt64 × Int32) (μ := fun q => match q with | (y1_2, y1_4) => (2147483647 - (y1_4).toInt).toNat) (Inv := fun q H locs ls => match q with | (y1_2, y1_4) => N1 y1_2 ∧ 0 ≤ zv y1_2 ∧ va_P D vwCl (cw cI a g d F) H ∧ va_D A (cw cI a g d F) ∧ va_S A s.heap H locs ∧ lv_has ls 5 [(4, .int y1_4), (2, .double y1_2), (0, .ref ((a 6))), (1, .int p_k)]) (fun q H locs ls hv ih1 => ?_) (((d 2)), 1) _ _ _ ⟨hI.1.2.2.2.2.1, hI.2.2.2.2.2.2.2.1.1, hP, hD, hS, lv_sub hl [0, 1, 2, 3] rfl⟩
  obtain ⟨y1_2, y1_4⟩ := q
  obtain ⟨hq1_0, hq1_1, hP, hD, hS, hl⟩ := hv
  refine lv_iload hx hb dX4_ticksAfter_8 (lv_at hl 0 rfl) ?_
  refine lv_iload_n hx hb dX4_ticksAfter_10 rfl (lv_at hl 3 rfl) ?_
  refine lv_icmp_ge (tgt := 27) hx hb dX4_ticksAfter_11 (by decide) (fun c2 => ?_) (fun c2 => ?_)
  · refine lv_aload_n hx hb dX4_ticksAfter_27 rfl (lv_at hl 2 rfl) ?_
    refine va_get (D := D) (ci := 4) (v := .double ((d 4))) (C := RX4) (T := TX4) (N := 5) hx hb hts hi4 hown hK hP 6 rfl rfl 4 (by decide) (hts (.fieldLink RX4 29 "GuardedCalls$Retry" "most" "D") (by decide +kernel)) (fun _ h9 => h9) rfl dX4_ticksAfter_28 ?_
    refine lv_dload_n hx hb dX4_ticksAfter_31 rfl (lv_at hl 1 rfl) ?_
    refine lv_dcmp hx hb dX4_ticksAfter_32 ?_
    refine lv_if_ge (tgt := 43) hx hb dX4_ticksAfter_33 (by decide) (fun c3 => ?_) (fun c3 => ?_)
    · refine lv_dload_n hx hb dX4_ticksAfter_43 rfl (lv_at hl 1 rfl) ?_
      refine lv_d2i hx hb dX4_ticksAfter_44 ?_
      refine lv_topi (fun x4 e4 => ?_)
      exact W.iret (v := x4) hx hb hr (fun t ht hW => ⟨⟨_, (g, d, F), rfl, ⟨by rw [e4]; exact d2i_100 hq1_0 hq1_1 (Int.le_trans (cmp_ge hI.2.2.2.2.2.2.2.2.1.1 hq1_0 c3) hI.2.2.2.2.2.2.2.2.1.2.2), rfl⟩, by rw [ht]; exact hP, hD⟩, hS.F ht⟩) hS.2.2 dX4_ticksAfter_45
    · refine lv_aload_n hx hb dX4_ticksAfter_36 rfl (lv_at hl 2 rfl) ?_
      refine va_get (D := D) (ci := 4) (v := .double ((d 4))) (C := RX4) (T := TX4) (N := 5) hx hb hts hi4 hown hK hP 6 rfl rfl 4 (by decide) (hts (.fieldLink RX4 29 "GuardedCalls$Retry" "most" "D") (by decide +kernel)) (fun _ h9 => h9) rfl dX4_ticksAfter_37 ?_
      refine lv_goto (tgt := 44) hx hb dX4_ticksAfter_40 (by decide) ?_
      refine lv_d2i hx hb dX4_ticksAfter_44 ?_
      refine lv_topi (fun x5 e5 => ?_)
      exact W.iret (v := x5) hx hb hr (fun t ht hW => ⟨⟨_, (g, d, F), rfl, ⟨by rw [e5]; exact d2i_100 hI.2.2.2.2.2.2.2.2.1.1 hI.2.2.2.2.2.2.2.2.1.2.1 hI.2.2.2.2.2.2.2.2.1.2.2, rfl⟩, by rw [ht]; exact hP, hD⟩, hS.F ht⟩) hS.2.2 dX4_ticksAfter_45
  · refine lv_dload_n hx hb dX4_ticksAfter_14 rfl (lv_at hl 1 rfl) ?_
    refine lv_aload_n hx hb dX4_ticksAfter_15 rfl (lv_at hl 2 rfl) ?_
    refine va_get (D := D) (ci := 4) (v := .double ((d 3))) (C := RX4) (T := TX4) (N := 5) hx hb hts hi4 hown hK hP 6 rfl rfl 3 (by decide) (hts (.fieldLink RX4 24 "GuardedCalls$Retry" "times" "D") (by decide +kernel)) (fun _ h9 => h9) rfl dX4_ticksAfter_16 ?_
    refine lv_dmul hx hb dX4_ticksAfter_19 (n64_of (N1_mul hq1_0 hI.1.2.2.2.2.2)) ?_
    refine lv_topd (fun x6 e6 => ?_)
    refine lv_dstore_n (lv' := [(2, .double x6), (4, .int y1_4), (0, .ref ((a 6))), (1, .int p_k)]) hx hb dX4_ticksAfter_20 rfl hl (by decide) rfl (fun ls hl => ?_)
    obtain ⟨x7, e7⟩ : ∃ y : Int32, y = y1_4 + 1 := ⟨_, rfl⟩
    refine lv_iinc (v := x7) (lv' := [(4, .int x7), (2, .double x6), (0, .ref ((a 6))), (1, .int p_k)]) hx hb dX4_ticksAfter_21 hl (k := 1) rfl (by rw [e7]; rfl) (by decide) rfl (fun ls hl => ?_)
    refine lv_goto (tgt := 8) hx hb dX4_ticksAfter_24 (by decide) ?_
    exact ih1 (x6, x7) _ _ _ (by have h1 := i_inc c2; have h2 := i_lt c2; have h3 := p_k.toInt_lt; show (2147483647 - (x7).toInt).toNat < (2147483647 - (y1_4).toInt).toNat; rw [e7, h1]; omega) ⟨by rw [e6]; exact N1_mul hq1_0 hI.1.2.2.2.2.2, by rw [e6]; exact P0_mul hq1_0 hI.1.2.2.2.2.2 hq1_1 hI.2.2.2.2.2.2.2.1.2, hP, hD, hS, lv_sub hl [0, 1, 2, 3] rfl⟩
