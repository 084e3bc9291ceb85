def LieS (h : Int32) (f : Nat → Int32) (k : Int32) : Prop := ∃ j : Nat, (j : Int) < h.toInt ∧ f j = k
abbrev LayP (hg : Int32) (f : Nat → Int32) (k r : Int32) (hg' : Int32) (f' : Nat → Int32) (full : Prop) : Prop := (r = -1 ∧ hg' = hg ∧ f' = f ∧ (bw k 0 4 = 0 ∨ LieS hg f k ∨ full)) ∨ (r = hg + 1 ∧ hg' = hg + 1 ∧ f' = upd f hg.toNatClampNeg k ∧ (¬ bw k 0 4 = 0) ∧ (¬ LieS hg f k))
theorem lie_found {i h k : Int32} {f : Nat → Int32} (h0 : 0 ≤ i.toInt) (hi : ¬ h ≤ i) (h5 : ¬ 5 ≤ i) (e : f i.toNatClampNeg = k) : LieS h f k := by
  have h1 := i_lt hi
  have h2 := i_lt h5
  rw [show (5 : Int32).toInt = 5 from rfl] at h2
  obtain ⟨j, hj, rfl⟩ := vp_in_of (vp_in_iff.mpr ⟨h0, by omega⟩ : vp_in i 5) (by decide)
  rw [nI_clamp (by omega)] at e
  rw [nI_toInt (by omega)] at h1
  exact ⟨j, h1, e⟩
theorem lie_none {i h k : Int32} {f : Nat → Int32} (h5 : h.toInt ≤ 5) (hx : h ≤ i ∨ 5 ≤ i) (hn : ∀ j : Nat, (j : Int) < i.toInt → f j ≠ k) : ¬ LieS h f k := by
  rintro ⟨j, hj, e⟩
  refine hn j ?_ e
  rcases hx with hx | hx
  · rw [Int32.le_iff_toInt_le] at hx; omega
  · rw [Int32.le_iff_toInt_le, show (5 : Int32).toInt = 5 from rfl] at hx; omega
theorem lies_next {i k : Int32} {f : Nat → Int32} (h0 : 0 ≤ i.toInt) (h5 : ¬ 5 ≤ i) (hn : ∀ j : Nat, (j : Int) < i.toInt → f j ≠ k) (e : ¬ f i.toNatClampNeg = k) : ∀ j : Nat, (j : Int) < (i + 1).toInt → f j ≠ k := lay_next h0 h5 (by decide) hn e
theorem lay_in {k kd t : Int32} {f : Nat → Int32} (h0 : 0 ≤ k.toInt) (ht : ¬ t ≤ k) (h5 : t.toInt ≤ 5) (e : f k.toNatClampNeg = kd) : ∃ j : Nat, (j : Int) < (k + 1).toInt ∧ f j = kd := by
  have h1 := i_lt ht
  obtain ⟨q, hq, rfl⟩ := vp_in_of (vp_in_iff.mpr ⟨h0, by omega⟩ : vp_in k 5) (by decide)
  rw [nI_clamp (by omega)] at e
  exact ⟨q, by rw [i_inc ht, nI_toInt (by omega)]; omega, e⟩
theorem lay_in2 {k kd t : Int32} {f : Nat → Int32} (ht : ¬ t ≤ k) (h : ∃ j : Nat, (j : Int) < k.toInt ∧ f j = kd) : ∃ j : Nat, (j : Int) < (k + 1).toInt ∧ f j = kd := by
  obtain ⟨j, h1, h2⟩ := h
  exact ⟨j, by rw [i_inc ht]; omega, h2⟩
set_option maxHeartbeats 4000000 in
set_option maxRecDepth 100000 in
theorem s2_X6_lies (l : Launch) (D : va_G) (cI : ClassId) (a : Nat → Nat) (sz : Nat) (g : Nat → Int32) (d : Nat → UInt64) (F : Nat → Nat → Int32) (p_k : Int32) (h5 : (g 0).toInt ≤ 5) : Met l yX6_lies wsX6_lies ({ frames := 0, cells := 0, slots := 0, locals := 0 }) (gP (KC D cI) D (cw cI a g d F) sz [.ref (a 0), .int p_k]) (va_Qi (fun (r : Int32) (u : SS) => ((r = 1 ∧ LieS (g 0) (F 0) p_k) ∨ (r = 0 ∧ ¬ LieS (g 0) (F 0) p_k)) ∧ u = (g, d, F)) (gB D (wfC cI a) (va_A (cw cI a g d F) sz)) (va_A (cw cI a g d F) sz)) 0 0 (va_A (cw cI a g d F) sz) := by
  refine Met.ofW (cc := cX6_lies) (maxL := 3) (ret := (some .boolean)) (by decide) rfl ?_
  intro p e s m args below meth c s₁ B hml hv
  obtain ⟨rfl, hsz, hP, hD0, hKK⟩ := hv
  have hx := B.exec
  have hb := B.bytes
  have hr := B.returns
  have hts := atoms_spec (ws := wsX6_lies) B.pre
  have hown : s.vm.findClass RX6 = some m.cls := findClass_of_methodNamed B.named
  have hlocks := B.notSynchronized
  subst hsz
  have hK := hKK.1
  have hok := KC_ok D cI
  have hD := hD0.self (sz := s.heap.size)
  generalize hAe : va_A (cw cI a g d F) s.heap.size = A at hD ⊢
  have hi6 : ∀ w ∈ wsX60, w ∈ wsX6_lies := fun w h => List.mem_cons_of_mem _ (List.mem_append_right _ h)
  have hA : ∀ q : Nat, s.heap.size ≤ q → A q := fun q h => by rw [← hAe]; exact Or.inr h
  have hS : va_S A s.heap s.heap [] := va_S.rf
  have hP : va_P D vwCl (cw cI a g d F) s.heap := hP
  have hl := lv_entry ([.ref ((a 0)), .int p_k]) (n := 3) (Nat.le_of_ble_eq_true rfl)
  rw [lg_entry_eq]
  generalize (lg_sl ([.ref ((a 0)), .int p_k]) ++ List.replicate (3 - (lg_sl ([.ref ((a 0)), .int p_k])).length) Slot.unset).toArray = ls at hl ⊢
  have hl : lv_has ls 3 [(0, .ref ((a 0))), (1, .int p_k)] := hl
  refine lv_iconst (v := 0) hx hb dX6_lies_0 (by decide) ?_
  refine lv_istore_n (lv' := [(2, .int 0), (0, .ref ((a 0))), (1, .int p_k)]) hx hb dX6_lies_1 rfl hl (by decide) rfl (fun ls hl => ?_)
  refine gl_loop (σ := Int32) (μ := fun q => match q with | y1_2 => (5 - (y1_2).toInt).toNat) (Inv := fun q H locs ls => match q with | y1_2 => 0 ≤ (y1_2).toInt ∧ (∀ j : Nat, (j : Int) < (y1_2).toInt → F 0 j ≠ p_k) ∧ va_P D vwCl (cw cI a g d F) H ∧ va_D A (cw cI a g d F) ∧ va_S A s.heap H locs ∧ lv_has ls 3 [(2, .int y1_2), (0, .ref ((a 0))), (1, .int p_k)]) (fun q H locs ls hv ih1 => ?_) 0 _ _ _ ⟨by decide, fun j hj => by rw [show (0 : Int32).toInt = 0 from rfl] at hj; omega, hP, hD, hS, lv_sub hl [0, 1, 2] rfl⟩
  obtain ⟨y1_2, rfl⟩ : ∃ y, y = q := ⟨_, rfl⟩
  obtain ⟨hq1_0, hq1_1, hP, hD, hS, hl⟩ := hv
  refine lv_iload_n hx hb dX6_lies_2 rfl (lv_at hl 0 rfl) ?_
  refine lv_aload_n hx hb dX6_lies_3 rfl (lv_at hl 1 rfl) ?_
  refine va_get (D := D) (ci := 6) (v := .int ((g 0))) (C := RX6) (T := TX6) (N := 11) hx hb hts hi6 hown hK hP 0 rfl rfl 7 (by decide) (hts (.fieldLink RX6 59 "GuardedCalls" "laid" "I") (by decide +kernel)) (fun _ h9 => h9) rfl dX6_lies_4 ?_
  refine lv_icmp_ge (tgt := 33) hx hb dX6_lies_7 (by decide) (fun c2 => ?_) (fun c2 => ?_)
  · refine lv_iconst (v := 0) hx hb dX6_lies_33 (by decide) ?_
    exact W.zret (v := 0) hx hb hr (rfl) (fun t ht hW => ⟨⟨_, (g, d, F), rfl, ⟨Or.inr ⟨rfl, lie_none h5 (Or.inl c2) hq1_1⟩, rfl⟩, by rw [ht]; exact hP, hD⟩, hS.F ht⟩) hS.2.2 dX6_lies_34
  · refine lv_iload_n hx hb dX6_lies_10 rfl (lv_at hl 0 rfl) ?_
    refine lv_iconst (v := 5) hx hb dX6_lies_11 (by decide) ?_
    refine lv_icmp_ge (tgt := 33) hx hb dX6_lies_12 (by decide) (fun c3 => ?_) (fun c3 => ?_)
    · refine lv_iconst (v := 0) hx hb dX6_lies_33 (by decide) ?_
      exact W.zret (v := 0) hx hb hr (rfl) (fun t ht hW => ⟨⟨_, (g, d, F), rfl, ⟨Or.inr ⟨rfl, lie_none h5 (Or.inr c3) hq1_1⟩, rfl⟩, by rw [ht]; exact hP, hD⟩, hS.F ht⟩) hS.2.2 dX6_lies_34
    · refine lv_aload_n hx hb dX6_lies_15 rfl (lv_at hl 1 rfl) ?_
      refine va_get (D := D) (ci := 6) (v := .ref ((a 7))) (C := RX6) (T := TX6) (N := 11) hx hb hts hi6 hown hK hP 0 rfl rfl 6 (by decide) (hts (.fieldLink RX6 55 "GuardedCalls" "stack" "[I") (by decide +kernel)) (fun _ h9 => h9) rfl dX6_lies_16 ?_
      refine lv_iload_n hx hb dX6_lies_19 rfl (lv_at hl 0 rfl) ?_
      refine va_iald (D := D) hx hb hK hP 7 0 (f := (F 0)) (n := 5) rfl rfl (vp_in_iff.mpr ⟨hq1_0, by have h2 := i_lt c3; rw [show (5 : Int32).toInt = 5 from rfl] at h2; omega⟩) dX6_lies_20 ?_
      refine lv_topi (fun x4 e4 => ?_)
      refine lv_iload_n hx hb dX6_lies_21 rfl (lv_at hl 2 rfl) ?_
      refine lv_icmp_ne (tgt := 27) hx hb dX6_lies_22 (by decide) (fun c5 => ?_) (fun c5 => ?_)
      · obtain ⟨x6, e6⟩ : ∃ y : Int32, y = y1_2 + 1 := ⟨_, rfl⟩
        refine lv_iinc (v := x6) (lv' := [(2, .int x6), (0, .ref ((a 0))), (1, .int p_k)]) hx hb dX6_lies_27 hl (k := 0) rfl (by rw [e6]; rfl) (by decide) rfl (fun ls hl => ?_)
        refine lv_goto (tgt := 2) hx hb dX6_lies_30 (by decide) ?_
        exact ih1 x6 _ _ _ (by have h1 := i_inc c3; have h2 := i_lt c3; rw [show (5 : Int32).toInt = 5 from rfl] at h2; show (5 - (x6).toInt).toNat < (5 - (y1_2).toInt).toNat; rw [e6, h1]; omega) ⟨by rw [e6, i_inc c3]; omega, by rw [e6]; exact lies_next hq1_0 c3 hq1_1 (by rw [← e4]; exact c5), hP, hD, hS, lv_sub hl [0, 1, 2] rfl⟩
      · refine lv_iconst (v := 1) hx hb dX6_lies_25 (by decide) ?_
        exact W.zret (v := 1) hx hb hr (rfl) (fun t ht hW => ⟨⟨_, (g, d, F), rfl, ⟨Or.inl ⟨rfl, lie_found hq1_0 c2 c3 (by rw [← e4]; exact c5)⟩, rfl⟩, by rw [ht]; exact hP, hD⟩, hS.F ht⟩) hS.2.2 dX6_lies_26
set_option maxHeartbeats 4000000 in
set_option maxRecDepth 100000 in
theorem s2_X6_lay (l : Launch) (D : va_G) (cI : ClassId) (a : Nat → Nat) (sz : Nat) (g : Nat → Int32) (d : Nat → UInt64) (F : Nat → Nat → Int32) (p_k : Int32) (hI : CI g d) (h0 : 0 ≤ (g 0).toInt) (h5 : (g 0).toInt ≤ 5) : Met l yX6_lay wsX6_lay ({ frames := 1, cells := 0, slots := 0, locals := 22 }) (gP (KC D cI) D (cw cI a g d F) sz [.ref (a 0), .int p_k]) (va_Qi (fun (r : Int32) (u : SS) => LayP (g 0) (F 0) p_k r (u.1 0) (u.2.2 0) (¬ g 0 < 5) ∧ CI u.1 u.2.1 ∧ u.1 2 = g 2 ∧ 0 ≤ (u.1 0).toInt ∧ (u.1 0).toInt ≤ 5) (gB D (wfC cI a) (va_A (cw cI a g d F) sz)) (va_A (cw cI a g d F) sz)) 0 0 (va_A (cw cI a g d F) sz) := by
  refine Met.ofW (cc := cX6_lay) (maxL := 2) (ret := (some .int)) (by decide) rfl ?_
  intro p e s m args below meth c s₁ B hml hv
  obtain ⟨rfl, hsz, hP, hD0, hKK⟩ := hv
  have hx := B.exec
  have hb := B.bytes
  have hr := B.returns
  have hts := atoms_spec (ws := wsX6_lay) B.pre
  have hown : s.vm.findClass RX6 = some m.cls := findClass_of_methodNamed B.named
  have hlocks := B.notSynchronized
  subst hsz
  have hK := hKK.1
  have hok := KC_ok D cI
  have hD := hD0.self (sz := s.heap.size)
  generalize hAe : va_A (cw cI a g d F) s.heap.size = A at hD ⊢
  have hi6 : ∀ w ∈ wsX60, w ∈ wsX6_lay := fun w h => List.mem_cons_of_mem _ (List.mem_append_right _ h)
  have hA : ∀ q : Nat, s.heap.size ≤ q → A q := fun q h => by rw [← hAe]; exact Or.inr h
  have hS : va_S A s.heap s.heap [] := va_S.rf
  have hP : va_P D vwCl (cw cI a g d F) s.heap := hP
  have hl := lv_entry ([.ref ((a 0)), .int p_k]) (n := 2) (Nat.le_of_ble_eq_true rfl)
  rw [lg_entry_eq]
  generalize (lg_sl ([.ref ((a 0)), .int p_k]) ++ List.replicate (2 - (lg_sl ([.ref ((a 0)), .int p_k])).length) Slot.unset).toArray = ls at hl ⊢
  have hl : lv_has ls 2 [(0, .ref ((a 0))), (1, .int p_k)] := hl
  refine lv_iload_n hx hb dX6_lay_0 rfl (lv_at hl 1 rfl) ?_
  refine lv_iconst (v := 0) hx hb dX6_lay_1 (by decide) ?_
  refine lv_iconst (v := 4) hx hb dX6_lay_2 (by decide) ?_
  refine gc_si (As := [.int p_k, .int 0, .int 4]) (rest := []) ⟨hx, hb, hml, hown, hts⟩ hP hD hS hA (c_X6_isWithin l _ p_k 0 4) (va_cwS 3 hts gX6_lay_X6_isWithin rfl rfl rfl (by decide +kernel) ⟨Nat.le_of_ble_eq_true rfl, Nat.le_of_ble_eq_true rfl⟩) rfl hl.1 rfl (Nat.le_of_ble_eq_true rfl) dX6_lay_3 ⟨Nat.le_of_ble_eq_true rfl, Nat.le_of_ble_eq_true rfl⟩ (fun r1 H locs hw1 hP hS => ?_)
  subst hw1
  refine lv_if_eq (tgt := 25) hx hb dX6_lay_6 (by decide) (fun c2 => ?_) (fun c2 => ?_)
  · refine lv_iconst (v := (-1)) hx hb dX6_lay_25 (by decide) ?_
    exact W.iret (v := ((-1))) hx hb hr (fun t ht hW => ⟨⟨_, (g, d, F), rfl, ⟨Or.inl ⟨rfl, rfl, rfl, Or.inl c2⟩, hI, rfl, h0, h5⟩, by rw [ht]; exact hP, hD⟩, hS.F ht⟩) hS.2.2 dX6_lay_26
  · refine lv_aload_n hx hb dX6_lay_9 rfl (lv_at hl 0 rfl) ?_
    refine lv_iload_n hx hb dX6_lay_10 rfl (lv_at hl 1 rfl) ?_
    refine gc_vi (As := [.int p_k]) (rest := []) (w0 := cw cI a g d F) (wc := cw cI a g d F) (wr := []) (wf := wfC cI a) ⟨hx, hb, hml, hown, hts⟩ hKK hok hP hD hS hA [0, 1, 2, 3, 4, 5, 6, 7, 8, 9, 10, 11] [] rfl rfl (by decide) (s2_X6_lies l D cI a _ g d F p_k h5) (cwV 1 hts gX6_lay_X6_lies rfl rfl rfl (by decide +kernel) ⟨Nat.le_of_ble_eq_true rfl, Nat.le_of_ble_eq_true rfl⟩) (va_recv hK hP (ci := 6) (q0 := 0) rfl rfl) rfl hl.1 rfl (Nat.le_of_ble_eq_true rfl) dX6_lay_11 ⟨Nat.le_of_ble_eq_true rfl, Nat.le_of_ble_eq_true rfl⟩ (fun r3 u3 H locs hw3 hP hD hS => ?_)
    obtain ⟨hr3, rfl⟩ := hw3
    have hP : va_P D vwCl (cw cI a g d F) H := hP
    have hD : va_D A (cw cI a g d F) := hD
    refine lv_if_ne (tgt := 25) hx hb dX6_lay_14 (by decide) (fun c4 => ?_) (fun c4 => ?_)
    · refine lv_iconst (v := (-1)) hx hb dX6_lay_25 (by decide) ?_
      exact W.iret (v := ((-1))) hx hb hr (fun t ht hW => ⟨⟨_, (g, d, F), rfl, ⟨Or.inl ⟨rfl, rfl, rfl, Or.inr (Or.inl (hr3.elim (fun h => h.2) (fun h => absurd h.1 c4)))⟩, hI, rfl, h0, h5⟩, by rw [ht]; exact hP, hD⟩, hS.F ht⟩) hS.2.2 dX6_lay_26
    · refine lv_aload_n hx hb dX6_lay_17 rfl (lv_at hl 0 rfl) ?_
      refine va_get (D := D) (ci := 6) (v := .int ((g 0))) (C := RX6) (T := TX6) (N := 11) hx hb hts hi6 hown hK hP 0 rfl rfl 7 (by decide) (hts (.fieldLink RX6 59 "GuardedCalls" "laid" "I") (by decide +kernel)) (fun _ h9 => h9) rfl dX6_lay_18 ?_
      refine lv_iconst (v := 5) hx hb dX6_lay_21 (by decide) ?_
      refine lv_icmp_lt (tgt := 27) hx hb dX6_lay_22 (by decide) (fun c5 => ?_) (fun c5 => ?_)
      · refine lv_aload_n hx hb dX6_lay_27 rfl (lv_at hl 0 rfl) ?_
        refine va_get (D := D) (ci := 6) (v := .ref ((a 7))) (C := RX6) (T := TX6) (N := 11) hx hb hts hi6 hown hK hP 0 rfl rfl 6 (by decide) (hts (.fieldLink RX6 55 "GuardedCalls" "stack" "[I") (by decide +kernel)) (fun _ h9 => h9) rfl dX6_lay_28 ?_
        refine lv_aload_n hx hb dX6_lay_31 rfl (lv_at hl 0 rfl) ?_
        refine va_get (D := D) (ci := 6) (v := .int ((g 0))) (C := RX6) (T := TX6) (N := 11) hx hb hts hi6 hown hK hP 0 rfl rfl 7 (by decide) (hts (.fieldLink RX6 59 "GuardedCalls" "laid" "I") (by decide +kernel)) (fun _ h9 => h9) rfl dX6_lay_32 ?_
        refine lv_iload_n hx hb dX6_lay_35 rfl (lv_at hl 1 rfl) ?_
        refine va_iast (D := D) hx hb hK hP hD hS 7 0 (f := (F 0)) (n := 5) rfl rfl (vp_in_iff.mpr ⟨h0, by have h9 := c5; rw [Int32.lt_iff_toInt_lt, show (5 : Int32).toInt = 5 from rfl] at h9; omega⟩) dX6_lay_36 (fun H locs hP hD hS => ?_)
        have hP : va_P D vwCl (cw cI a g d (vf_upd F 0 (upd (F 0) ((g 0)).toNatClampNeg p_k))) H := hP
        have hD : va_D A (cw cI a g d (vf_upd F 0 (upd (F 0) ((g 0)).toNatClampNeg p_k))) := hD
        refine lv_aload_n hx hb dX6_lay_37 rfl (lv_at hl 0 rfl) ?_
        refine lv_dup hx hb dX6_lay_38 rfl ?_
        refine va_get (D := D) (ci := 6) (v := .int ((g 0))) (C := RX6) (T := TX6) (N := 11) hx hb hts hi6 hown hK hP 0 rfl rfl 7 (by decide) (hts (.fieldLink RX6 59 "GuardedCalls" "laid" "I") (by decide +kernel)) (fun _ h9 => h9) rfl dX6_lay_39 ?_
        refine lv_iconst (v := 1) hx hb dX6_lay_42 (by decide) ?_
        refine lv_iadd hx hb dX6_lay_43 ?_
        refine lv_topi (fun x6 e6 => ?_)
        refine va_put (D := D) (ci := 6) (v := .int x6) (ty := .int) (C := RX6) (T := TX6) (N := 11) hx hb hts hi6 tyX6 tyX6_ok nmX6 hown hK hP hD hS 0 rfl rfl 7 (by decide) (hts (.fieldLink RX6 59 "GuardedCalls" "laid" "I") (by decide +kernel)) (fun _ h9 => h9) rfl (by decide +kernel) rfl rfl (Nat.le_of_ble_eq_true rfl) dX6_lay_44 (fun H locs hP hD hS => ?_)
        have hP : va_P D vwCl (cw cI a (upd g 0 x6) d (vf_upd F 0 (upd (F 0) ((g 0)).toNatClampNeg p_k))) H := hP
        have hD : va_D A (cw cI a (upd g 0 x6) d (vf_upd F 0 (upd (F 0) ((g 0)).toNatClampNeg p_k))) := hD
        refine lv_aload_n hx hb dX6_lay_47 rfl (lv_at hl 0 rfl) ?_
        refine va_get (D := D) (ci := 6) (v := .int x6) (C := RX6) (T := TX6) (N := 11) hx hb hts hi6 hown hK hP 0 rfl rfl 7 (by decide) (hts (.fieldLink RX6 59 "GuardedCalls" "laid" "I") (by decide +kernel)) (fun _ h9 => h9) rfl dX6_lay_48 ?_
        exact W.iret (v := x6) hx hb hr (fun t ht hW => ⟨⟨_, (upd g 0 x6, d, vf_upd F 0 (upd (F 0) ((g 0)).toNatClampNeg p_k)), rfl, ⟨Or.inr ⟨e6, e6, rfl, c2, hr3.elim (fun h => absurd (h.1.symm.trans c4) (by decide)) (fun h => h.2)⟩, hI, rfl, by show 0 ≤ (x6).toInt; rw [e6, i_inc (lt_nge c5)]; omega, by show (x6).toInt ≤ 5; rw [e6, i_inc (lt_nge c5)]; have h9 := i_lt (lt_nge c5); rw [show (5 : Int32).toInt = 5 from rfl] at h9; omega⟩, by rw [ht]; exact hP, hD⟩, hS.F ht⟩) hS.2.2 dX6_lay_51
      · refine lv_iconst (v := (-1)) hx hb dX6_lay_25 (by decide) ?_
        exact W.iret (v := ((-1))) hx hb hr (fun t ht hW => ⟨⟨_, (g, d, F), rfl, ⟨Or.inl ⟨rfl, rfl, rfl, Or.inr (Or.inr c5)⟩, hI, rfl, h0, h5⟩, by rw [ht]; exact hP, hD⟩, hS.F ht⟩) hS.2.2 dX6_lay_26
set_option maxHeartbeats 4000000 in
set_option maxRecDepth 100000 in
theorem s2_X7_lay (l : Launch) (D : va_G) (cI : ClassId) (a : Nat → Nat) (sz : Nat) (g : Nat → Int32) (d : Nat → UInt64) (F : Nat → Nat → Int32) (p_k : Int32) (hI : MI g d F) : Met l yX7_lay wsX7_lay ({ frames := 1, cells := 0, slots := 0, locals := 22 }) (gP (KM D cI) D (mw cI a g d F) sz [.ref (a 0), .int p_k]) (va_Qi (fun (r : Int32) (u : SS) => LayP (g 3) (F 0) p_k r (u.1 3) (u.2.2 0) False ∧ MI u.1 u.2.1 u.2.2 ∧ u.1 26 = g 26) (gB D (wfM cI a) (va_A (mw cI a g d F) sz)) (va_A (mw cI a g d F) sz)) 0 0 (va_A (mw cI a g d F) sz) := by
  refine Met.ofW (cc := cX7_lay) (maxL := 4) (ret := (some .int)) (by decide) rfl ?_
  intro p e s m args below meth c s₁ B hml hv
  obtain ⟨rfl, hsz, hP, hD0, hKK⟩ := hv
  have hx := B.exec
  have hb := B.bytes
  have hr := B.returns
  have hts := atoms_spec (ws := wsX7_lay) B.pre
  have hown : s.vm.findClass RX7 = some m.cls := findClass_of_methodNamed B.named
  have hlocks := B.notSynchronized
  subst hsz
  have hK := hKK.1
  have hok := KM_ok D cI
  have hD := hD0.self (sz := s.heap.size)
  generalize hAe : va_A (mw cI a g d F) s.heap.size = A at hD ⊢
  have hi7 : ∀ w ∈ wsX70, w ∈ wsX7_lay := fun w h => List.mem_cons_of_mem _ (List.mem_append_right _ h)
  have hA : ∀ q : Nat, s.heap.size ≤ q → A q := fun q h => by rw [← hAe]; exact Or.inr h
  have hS : va_S A s.heap s.heap [] := va_S.rf
  have hP : va_P D vwCl (mw cI a g d F) s.heap := hP
  have hl := lv_entry ([.ref ((a 0)), .int p_k]) (n := 4) (Nat.le_of_ble_eq_true rfl)
  rw [lg_entry_eq]
  generalize (lg_sl ([.ref ((a 0)), .int p_k]) ++ List.replicate (4 - (lg_sl ([.ref ((a 0)), .int p_k])).length) Slot.unset).toArray = ls at hl ⊢
  have hl : lv_has ls 4 [(0, .ref ((a 0))), (1, .int p_k)] := hl
  refine lv_aload_n hx hb dX7_lay_0 rfl (lv_at hl 0 rfl) ?_
  refine lv_iconst (v := 0) hx hb dX7_lay_1 (by decide) ?_
  refine va_put (D := D) (ci := 7) (v := .int 0) (ty := .int) (C := RX7) (T := TX7) (N := 41) hx hb hts hi7 tyX7 tyX7_ok nmX7 hown hK hP hD hS 0 rfl rfl 0 (by decide) (hts (.fieldLink RX7 96 "GuardedCallsModel" "thrown" "I") (by decide +kernel)) (fun _ h9 => h9) rfl (by decide +kernel) rfl rfl (Nat.le_of_ble_eq_true rfl) dX7_lay_2 (fun H locs hP hD hS => ?_)
  have hP : va_P D vwCl (mw cI a (upd g 0 0) d F) H := hP
  have hD : va_D A (mw cI a (upd g 0 0) d F) := hD
  refine lv_iconst (v := 0) hx hb dX7_lay_5 (by decide) ?_
  refine lv_istore_n (lv' := [(2, .int 0), (0, .ref ((a 0))), (1, .int p_k)]) hx hb dX7_lay_6 rfl hl (by decide) rfl (fun ls hl => ?_)
  refine lv_iconst (v := 0) hx hb dX7_lay_7 (by decide) ?_
  refine lv_istore_n (lv' := [(3, .int 0), (2, .int 0), (0, .ref ((a 0))), (1, .int p_k)]) hx hb dX7_lay_8 rfl hl (by decide) rfl (fun ls hl => ?_)
  refine gl_loop (σ := Int32 × Int32) (μ := fun q => match q with | (y1_2, y1_3) => (6 - (y1_3).toInt).toNat) (Inv := fun q H locs ls => match q with | (y1_2, y1_3) => 0 ≤ (y1_3).toInt ∧ (y1_2 = 0 ∨ y1_2 = 1) ∧ (y1_2 = 0 → ∀ j : Nat, (j : Int) < (y1_3).toInt → F 0 j ≠ p_k) ∧ (y1_2 = 1 → ∃ j : Nat, (j : Int) < (y1_3).toInt ∧ F 0 j = p_k) ∧ (y1_3).toInt ≤ (g 3).toInt ∧ va_P D vwCl (mw cI a (upd g 0 0) d F) H ∧ va_D A (mw cI a (upd g 0 0) d F) ∧ va_S A s.heap H locs ∧ lv_has ls 4 [(3, .int y1_3), (2, .int y1_2), (0, .ref ((a 0))), (1, .int p_k)]) (fun q H locs ls hv ih1 => ?_) (0, 0) _ _ _ ⟨by decide, Or.inl rfl, fun _ j hj => by rw [show (0 : Int32).toInt = 0 from rfl] at hj; omega, fun e => absurd e (by decide), by rw [show (0 : Int32).toInt = 0 from rfl]; exact hI.2.2.2.2.2.2.1.1, hP, hD, hS, lv_sub hl [0, 1, 2, 3] rfl⟩
  obtain ⟨y1_2, y1_3⟩ := q
  obtain ⟨hq1_0, hq1_1, hq1_2, hq1_3, hq1_4, hP, hD, hS, hl⟩ := hv
  refine lv_iload_n hx hb dX7_lay_9 rfl (lv_at hl 0 rfl) ?_
  refine lv_aload_n hx hb dX7_lay_10 rfl (lv_at hl 2 rfl) ?_
  refine va_get (D := D) (ci := 7) (v := .int ((g 3))) (C := RX7) (T := TX7) (N := 41) hx hb hts hi7 hown hK hP 0 rfl rfl 3 (by decide) (hts (.fieldLink RX7 174 "GuardedCallsModel" "height" "I") (by decide +kernel)) (fun _ h9 => h9) rfl dX7_lay_11 ?_
  refine lv_icmp_ge (tgt := 43) hx hb dX7_lay_14 (by decide) (fun c2 => ?_) (fun c2 => ?_)
  · refine lv_iload_n hx hb dX7_lay_43 rfl (lv_at hl 3 rfl) ?_
    refine lv_iconst (v := 0) hx hb dX7_lay_44 (by decide) ?_
    refine lv_iconst (v := 4) hx hb dX7_lay_45 (by decide) ?_
    refine gc_si (As := [.int p_k, .int 0, .int 4]) (rest := []) ⟨hx, hb, hml, hown, hts⟩ hP hD hS hA (c_X7_in l _ p_k 0 4) (va_cwS 3 hts gX7_lay_X7_in rfl rfl rfl (by decide +kernel) ⟨Nat.le_of_ble_eq_true rfl, Nat.le_of_ble_eq_true rfl⟩) rfl hl.1 rfl (Nat.le_of_ble_eq_true rfl) dX7_lay_46 ⟨Nat.le_of_ble_eq_true rfl, Nat.le_of_ble_eq_true rfl⟩ (fun r3 H locs hw3 hP hS => ?_)
    subst hw3
    refine lv_if_eq (tgt := 56) hx hb dX7_lay_49 (by decide) (fun c4 => ?_) (fun c4 => ?_)
    · refine lv_iconst (v := (-1)) hx hb dX7_lay_56 (by decide) ?_
      exact W.iret (v := ((-1))) hx hb hr (fun t ht hW => ⟨⟨_, (upd g 0 0, d, F), rfl, ⟨Or.inl ⟨rfl, rfl, rfl, Or.inl c4⟩, hI, rfl⟩, by rw [ht]; exact hP, hD⟩, hS.F ht⟩) hS.2.2 dX7_lay_57
    · refine lv_iload_n hx hb dX7_lay_52 rfl (lv_at hl 1 rfl) ?_
      refine lv_if_eq (tgt := 58) hx hb dX7_lay_53 (by decide) (fun c5 => ?_) (fun c5 => ?_)
      · refine lv_aload_n hx hb dX7_lay_58 rfl (lv_at hl 2 rfl) ?_
        refine va_get (D := D) (ci := 7) (v := .ref ((a 1))) (C := RX7) (T := TX7) (N := 41) hx hb hts hi7 hown hK hP 0 rfl rfl 4 (by decide) (hts (.fieldLink RX7 7 "GuardedCallsModel" "stack" "[I") (by decide +kernel)) (fun _ h9 => h9) rfl dX7_lay_59 ?_
        refine lv_aload_n hx hb dX7_lay_62 rfl (lv_at hl 2 rfl) ?_
        refine va_get (D := D) (ci := 7) (v := .int ((g 3))) (C := RX7) (T := TX7) (N := 41) hx hb hts hi7 hown hK hP 0 rfl rfl 3 (by decide) (hts (.fieldLink RX7 174 "GuardedCallsModel" "height" "I") (by decide +kernel)) (fun _ h9 => h9) rfl dX7_lay_63 ?_
        refine lv_iload_n hx hb dX7_lay_66 rfl (lv_at hl 3 rfl) ?_
        refine va_iast (D := D) hx hb hK hP hD hS 1 0 (f := (F 0)) (n := 5) rfl rfl (vp_in_iff.mpr ⟨hI.2.2.2.2.2.2.1.1, stk_room hI.2.2.2.2.2.2.1 (bw_r (x := 0) (y := 4) rfl rfl c4) (fun j hj => (hq1_2 c5) j (by have := Int32.le_iff_toInt_le.mp c2; omega))⟩) dX7_lay_67 (fun H locs hP hD hS => ?_)
        have hP : va_P D vwCl (mw cI a (upd g 0 0) d (vf_upd F 0 (upd (F 0) ((g 3)).toNatClampNeg p_k))) H := hP
        have hD : va_D A (mw cI a (upd g 0 0) d (vf_upd F 0 (upd (F 0) ((g 3)).toNatClampNeg p_k))) := hD
        refine lv_aload_n hx hb dX7_lay_68 rfl (lv_at hl 2 rfl) ?_
        refine lv_aload_n hx hb dX7_lay_69 rfl (lv_at hl 2 rfl) ?_
        refine va_get (D := D) (ci := 7) (v := .int ((g 3))) (C := RX7) (T := TX7) (N := 41) hx hb hts hi7 hown hK hP 0 rfl rfl 3 (by decide) (hts (.fieldLink RX7 174 "GuardedCallsModel" "height" "I") (by decide +kernel)) (fun _ h9 => h9) rfl dX7_lay_70 ?_
        refine lv_iconst (v := 1) hx hb dX7_lay_73 (by decide) ?_
        refine lv_iadd hx hb dX7_lay_74 ?_
        refine lv_topi (fun x6 e6 => ?_)
        refine va_put (D := D) (ci := 7) (v := .int x6) (ty := .int) (C := RX7) (T := TX7) (N := 41) hx hb hts hi7 tyX7 tyX7_ok nmX7 hown hK hP hD hS 0 rfl rfl 3 (by decide) (hts (.fieldLink RX7 174 "GuardedCallsModel" "height" "I") (by decide +kernel)) (fun _ h9 => h9) rfl (by decide +kernel) rfl rfl (Nat.le_of_ble_eq_true rfl) dX7_lay_75 (fun H locs hP hD hS => ?_)
        have hP : va_P D vwCl (mw cI a (upd (upd g 0 0) 3 x6) d (vf_upd F 0 (upd (F 0) ((g 3)).toNatClampNeg p_k))) H := hP
        have hD : va_D A (mw cI a (upd (upd g 0 0) 3 x6) d (vf_upd F 0 (upd (F 0) ((g 3)).toNatClampNeg p_k))) := hD
        have hI7 : MI (upd (upd g 0 0) 3 x6) d (vf_upd F 0 (upd (F 0) ((g 3)).toNatClampNeg p_k)) := ⟨hI.1, hI.2.1, hI.2.2.1, hI.2.2.2.1, hI.2.2.2.2.1, hI.2.2.2.2.2.1, by show Stk x6 (upd (F 0) (g 3).toNatClampNeg p_k); rw [e6]; exact stk_up hI.2.2.2.2.2.2.1 (bw_r (x := 0) (y := 4) rfl rfl c4) (fun j hj => (hq1_2 c5) j (by have := Int32.le_iff_toInt_le.mp c2; omega)), hI.2.2.2.2.2.2.2.1, hI.2.2.2.2.2.2.2.2⟩
        refine lv_aload_n hx hb dX7_lay_78 rfl (lv_at hl 2 rfl) ?_
        refine va_get (D := D) (ci := 7) (v := .int x6) (C := RX7) (T := TX7) (N := 41) hx hb hts hi7 hown hK hP 0 rfl rfl 3 (by decide) (hts (.fieldLink RX7 174 "GuardedCallsModel" "height" "I") (by decide +kernel)) (fun _ h9 => h9) rfl dX7_lay_79 ?_
        exact W.iret (v := x6) hx hb hr (fun t ht hW => ⟨⟨_, (upd (upd g 0 0) 3 x6, d, vf_upd F 0 (upd (F 0) ((g 3)).toNatClampNeg p_k)), rfl, ⟨Or.inr ⟨e6, e6, rfl, c4, fun h => h.elim fun j h => (show ∀ j : Nat, (j : Int) < (g 3).toInt → F 0 j ≠ p_k from fun (j : Nat) (hj : (j : Int) < (g 3).toInt) => (hq1_2 c5) j (by have := Int32.le_iff_toInt_le.mp c2; omega)) j h.1 h.2⟩, hI7, rfl⟩, by rw [ht]; exact hP, hD⟩, hS.F ht⟩) hS.2.2 dX7_lay_82
      · refine lv_iconst (v := (-1)) hx hb dX7_lay_56 (by decide) ?_
        exact W.iret (v := ((-1))) hx hb hr (fun t ht hW => ⟨⟨_, (upd g 0 0, d, F), rfl, ⟨Or.inl ⟨rfl, rfl, rfl, Or.inr (Or.inl ((hq1_3 (hq1_1.resolve_left c5)).elim fun j h => ⟨j, by have := Int32.le_iff_toInt_le.mp c2; have := hq1_4; omega, h.2⟩))⟩, hI, rfl⟩, by rw [ht]; exact hP, hD⟩, hS.F ht⟩) hS.2.2 dX7_lay_57
  · refine lv_iload_n hx hb dX7_lay_17 rfl (lv_at hl 1 rfl) ?_
    refine lv_if_ne (tgt := 31) hx hb dX7_lay_18 (by decide) (fun c8 => ?_) (fun c8 => ?_)
    · refine lv_iconst (v := 1) hx hb dX7_lay_31 (by decide) ?_
      refine lv_goto (tgt := 36) hx hb dX7_lay_32 (by decide) ?_
      refine lv_istore_n (lv' := [(2, .int 1), (3, .int y1_3), (0, .ref ((a 0))), (1, .int p_k)]) hx hb dX7_lay_36 rfl hl (by decide) rfl (fun ls hl => ?_)
      obtain ⟨x9, e9⟩ : ∃ y : Int32, y = y1_3 + 1 := ⟨_, rfl⟩
      refine lv_iinc (v := x9) (lv' := [(3, .int x9), (2, .int 1), (0, .ref ((a 0))), (1, .int p_k)]) hx hb dX7_lay_37 hl (k := 1) rfl (by rw [e9]; rfl) (by decide) rfl (fun ls hl => ?_)
      refine lv_goto (tgt := 9) hx hb dX7_lay_40 (by decide) ?_
      exact ih1 (1, x9) _ _ _ (by have h1 := i_inc c2; have h2 := i_lt c2; have := hI.2.2.2.2.2.2.1.2.1; show (6 - (x9).toInt).toNat < (6 - (y1_3).toInt).toNat; rw [e9, h1]; omega) ⟨by rw [e9, i_inc c2]; omega, Or.inr rfl, fun e => absurd e (by decide), fun _ => by rw [e9]; exact lay_in2 c2 (hq1_3 (hq1_1.resolve_left c8)), by rw [e9, i_inc c2]; have := i_lt c2; omega, hP, hD, hS, lv_sub hl [0, 1, 2, 3] rfl⟩
    · refine lv_aload_n hx hb dX7_lay_21 rfl (lv_at hl 2 rfl) ?_
      refine va_get (D := D) (ci := 7) (v := .ref ((a 1))) (C := RX7) (T := TX7) (N := 41) hx hb hts hi7 hown hK hP 0 rfl rfl 4 (by decide) (hts (.fieldLink RX7 7 "GuardedCallsModel" "stack" "[I") (by decide +kernel)) (fun _ h9 => h9) rfl dX7_lay_22 ?_
      refine lv_iload_n hx hb dX7_lay_25 rfl (lv_at hl 0 rfl) ?_
      refine va_iald (D := D) hx hb hK hP 1 0 (f := (F 0)) (n := 5) rfl rfl (vp_in_iff.mpr ⟨hq1_0, by have h2 := i_lt c2; have := hI.2.2.2.2.2.2.1.2.1; omega⟩) dX7_lay_26 ?_
      refine lv_topi (fun x10 e10 => ?_)
      refine lv_iload_n hx hb dX7_lay_27 rfl (lv_at hl 3 rfl) ?_
      refine lv_icmp_ne (tgt := 35) hx hb dX7_lay_28 (by decide) (fun c11 => ?_) (fun c11 => ?_)
      · refine lv_iconst (v := 0) hx hb dX7_lay_35 (by decide) ?_
        refine lv_istore_n (lv' := [(2, .int 0), (3, .int y1_3), (0, .ref ((a 0))), (1, .int p_k)]) hx hb dX7_lay_36 rfl hl (by decide) rfl (fun ls hl => ?_)
        obtain ⟨x12, e12⟩ : ∃ y : Int32, y = y1_3 + 1 := ⟨_, rfl⟩
        refine lv_iinc (v := x12) (lv' := [(3, .int x12), (2, .int 0), (0, .ref ((a 0))), (1, .int p_k)]) hx hb dX7_lay_37 hl (k := 1) rfl (by rw [e12]; rfl) (by decide) rfl (fun ls hl => ?_)
        refine lv_goto (tgt := 9) hx hb dX7_lay_40 (by decide) ?_
        exact ih1 (0, x12) _ _ _ (by have h1 := i_inc c2; have h2 := i_lt c2; have := hI.2.2.2.2.2.2.1.2.1; show (6 - (x12).toInt).toNat < (6 - (y1_3).toInt).toNat; rw [e12, h1]; omega) ⟨by rw [e12, i_inc c2]; omega, Or.inl rfl, fun _ => by rw [e12]; exact lay_next hq1_0 c2 hI.2.2.2.2.2.2.1.2.1 (hq1_2 c8) (by rw [← e10]; exact c11), fun e => absurd e (by decide), by rw [e12, i_inc c2]; have := i_lt c2; omega, hP, hD, hS, lv_sub hl [0, 1, 2, 3] rfl⟩
      · refine lv_iconst (v := 1) hx hb dX7_lay_31 (by decide) ?_
        refine lv_goto (tgt := 36) hx hb dX7_lay_32 (by decide) ?_
        refine lv_istore_n (lv' := [(2, .int 1), (3, .int y1_3), (0, .ref ((a 0))), (1, .int p_k)]) hx hb dX7_lay_36 rfl hl (by decide) rfl (fun ls hl => ?_)
        obtain ⟨x13, e13⟩ : ∃ y : Int32, y = y1_3 + 1 := ⟨_, rfl⟩
        refine lv_iinc (v := x13) (lv' := [(3, .int x13), (2, .int 1), (0, .ref ((a 0))), (1, .int p_k)]) hx hb dX7_lay_37 hl (k := 1) rfl (by rw [e13]; rfl) (by decide) rfl (fun ls hl => ?_)
        refine lv_goto (tgt := 9) hx hb dX7_lay_40 (by decide) ?_
        exact ih1 (1, x13) _ _ _ (by have h1 := i_inc c2; have h2 := i_lt c2; have := hI.2.2.2.2.2.2.1.2.1; show (6 - (x13).toInt).toNat < (6 - (y1_3).toInt).toNat; rw [e13, h1]; omega) ⟨by rw [e13, i_inc c2]; omega, Or.inr rfl, fun e => absurd e (by decide), fun _ => by rw [e13]; exact lay_in hq1_0 c2 hI.2.2.2.2.2.2.1.2.1 (by rw [← e10]; exact c11), by rw [e13, i_inc c2]; have := i_lt c2; omega, hP, hD, hS, lv_sub hl [0, 1, 2, 3] rfl⟩
