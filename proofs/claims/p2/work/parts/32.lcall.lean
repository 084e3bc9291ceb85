def KLX (D : va_G) (cI cL : ClassId) (U : State) : Prop := va_K D vwCl [(cI, .int), (cL, .long)] U ∧ NW U ∧ XW U ∧ XS U ∧ XC_ U
theorem KLX_X {D : va_G} {cI cL : ClassId} {U : State} (h : KLX D cI cL U) : KX D cI U := ⟨⟨h.1.sub [0] rfl, h.2.1⟩, h.2.2⟩
theorem KLX_C {D : va_G} {cI cL : ClassId} {U : State} (h : KLX D cI cL U) : KC D cI U := (KLX_X h).1
theorem KLX_M {D : va_G} {cI cL : ClassId} {U : State} (h : KLX D cI cL U) : KM D cI U := ⟨h.1.sub [0] rfl, trivial⟩
theorem KLX_ok (D : va_G) (cI cL : ClassId) : gOK (KLX D cI cL) := ⟨fun s U hW h => ⟨va_K.moved hW.alike h.1, ((KX_ok D cI).1 s U hW (KLX_X h)).1.2, ((KX_ok D cI).1 s U hW (KLX_X h)).2⟩, fun a U g mk h => ⟨va_K.moved (u := U) (U := U.calling g mk a) (Vm.Alike.refl U.vm) h.1, ((KX_ok D cI).2 a U g mk (KLX_X h)).1.2, ((KX_ok D cI).2 a U g mk (KLX_X h)).2⟩⟩
set_option maxHeartbeats 4000000 in
set_option maxRecDepth 100000 in
/-- the law's own call(x, out): it always returns -/
theorem x_L_call (l : Launch) (hst : l.stackTraces = false) (D : va_G) (cI cL : ClassId) (a : Nat → Nat) (qo : Nat) (fo : Nat → Int64) (sz : Nat) (g : Nat → Int32) (d : Nat → UInt64) (F : Nat → Nat → Int32) (hI : CI g d) (hl5 : (g 0).toInt ≤ 5) : Met l yL_call wsL_callp ({ frames := 37, cells := 1, slots := 6, locals := 830 }) (gPz (KLX D cI cL) D (cw cI a g d F ++ [(qo, .inl (cL, 1, .inr (.inl fo)))]) sz [.ref (a 0), .ref qo]) (va_Qi (fun (r : Int32) (u : SS × (Nat → Int64)) => (True) ∧ CP g F u.1) (gB D (fun (u : SS × (Nat → Int64)) => wfC cI a u.1 ++ [(qo, .inl (cL, 1, .inr (.inl u.2)))]) (va_A (cw cI a g d F ++ [(qo, .inl (cL, 1, .inr (.inl fo)))]) sz)) (va_A (cw cI a g d F ++ [(qo, .inl (cL, 1, .inr (.inl fo)))]) sz)) 1 6 (va_A (cw cI a g d F ++ [(qo, .inl (cL, 1, .inr (.inl fo)))]) sz) := by
  refine va_MetW (cc := cL_call) (maxL := 3) (ret := (some .int)) (by decide) rfl ?_
  intro p e s m args below meth c s₁ B hml hv
  obtain ⟨rfl, hsz, hP, hD0, hKL, hZ⟩ := hv
  have hx := B.exec
  have hb := B.bytes
  have hr := B.returns
  have hts := atoms_spec (ws := wsL_callp) B.pre
  have hown : s.vm.findClass RL = some m.cls := findClass_of_methodNamed B.named
  have hlocks := B.notSynchronized
  subst hsz
  have hK := hKL.1
  have hD := hD0.self (sz := s.heap.size)
  generalize hAe : va_A (cw cI a g d F ++ [(qo, .inl (cL, 1, .inr (.inl fo)))]) s.heap.size = A at hD hZ ⊢
  have hA : ∀ q : Nat, s.heap.size ≤ q → A q := fun q h => by rw [← hAe]; exact Or.inr h
  have hS : va_S A s.heap s.heap [] := va_S.rf
  have hl := lv_entry ([.ref (a 0), .ref qo]) (n := 3) (Nat.le_of_ble_eq_true rfl)
  rw [lg_entry_eq]
  generalize (lg_sl ([.ref (a 0), .ref qo]) ++ List.replicate (3 - (lg_sl ([.ref (a 0), .ref qo])).length) Slot.unset).toArray = ls at hl ⊢
  have hl : lv_has ls 3 [(0, .ref (a 0)), (1, .ref qo)] := hl
  refine lv_aload_n hx hb dL_call_0 rfl (lv_at hl 1 rfl) ?_
  refine lv_iconst (v := 0) hx hb dL_call_1 (by decide) ?_
  refine lv_aload_n hx hb dL_call_2 rfl (lv_at hl 0 rfl) ?_
  have hFc := va_free (wc := cw cI a g d F) hD hS hA [0, 1, 2, 3, 4, 5, 6, 7, 8, 9, 10, 11] rfl
  refine vx_calli (vx_runV (As := []) (rest := [.int 0, .ref qo]) ⟨hx, hb, hml, hown, hts⟩ (x_X6_call l hst D cI a _ g d F hI hl5) (cwV 0 hts gL_callp_X6_callp rfl rfl rfl (by decide +kernel) ⟨Nat.le_of_ble_eq_true rfl, Nat.le_of_ble_eq_true rfl⟩) ⟨gPz_blind (KX_ok D cI), va_recv hK hP (ci := 6) (q0 := 0) rfl rfl, fun U hU hW => ⟨rfl, by rw [hU], by rw [hU]; exact gP_sub hP [0, 1, 2, 3, 4, 5, 6, 7, 8, 9, 10, 11] rfl, (hD.sub [0, 1, 2, 3, 4, 5, 6, 7, 8, 9, 10, 11] (by decide) rfl).weaken (fun _ _ _ _ => trivial), (KX_ok D cI).1 s U hW (KLX_X hKL), ZZ_for hZ hS hFc hU hW⟩⟩ rfl rfl hl.1 rfl (lv_room (Nat.le_of_ble_eq_true rfl)) dL_call_3 ⟨Nat.le_of_ble_eq_true rfl, Nat.le_of_ble_eq_true rfl⟩) hS (fun q _ h => hFc q h) hFc (fun q _ h => hFc q h) (fun E ce q9 u t H1 locs1 ht hvm hpx hBX hz1 hk1 hS => ?_) (fun r u t H1 locs1 ht hvm hw hB hz1 hk1 hS => ?_)
  · intro hcell hcv hcl
    obtain ⟨hE, hP1, hD1⟩ := hBX
    rw [ht] at hP1
    obtain ⟨hP, hD⟩ := va_join (wr := [(qo, .inl (cL, 1, .inr (.inl fo)))]) (w1 := wfC cI a u) hP hD [0, 1, 2, 3, 4, 5, 6, 7, 8, 9, 10, 11] [12] rfl rfl (by decide) (by decide) hk1 hFc hP1 hD1
    have hP9 := hP.sub (ws' := wfC cI a u ++ [(qo, .inl (cL, 1, .inr (.inl fo)))]) [1, 2, 3, 4, 5, 6, 7, 8, 9, 10, 11, 12, 0] rfl
    have hD9 := hD.sub (ws' := wfC cI a u ++ [(qo, .inl (cL, 1, .inr (.inl fo)))]) [1, 2, 3, 4, 5, 6, 7, 8, 9, 10, 11, 12, 0] (by decide) rfl
    have htb : c.exceptionTable.toList = tableOf [(0, 8, 11, 13), (0, 8, 14, 15), (0, 8, 17, 17), (0, 8, 20, 19), (0, 8, 23, 21), (0, 8, 26, 23)] := vx_table (x := yL_call) B (hts _ List.mem_cons_self)
    simp only [exs, List.mem_cons, List.not_mem_nil, or_false] at hE
    rcases hE with rfl | rfl | rfl | rfl | rfl | rfl
    · refine vx_catch (own := RL) (name := "java/lang/IllegalStateException") hown [] ⟨0, 8, 11, 13⟩ [⟨0, 8, 14, 15⟩, ⟨0, 8, 17, 17⟩, ⟨0, 8, 20, 19⟩, ⟨0, 8, 23, 21⟩, ⟨0, 8, 26, 23⟩] (by rw [htb]; rfl) ?_ (by decide) (by decide) (hts (.classLink RL 13 "java/lang/IllegalStateException") (by decide +kernel)) (va_Nw.use rfl (hKL.2.2.1 (.castable "java/lang/IllegalStateException" "java/lang/IllegalStateException") (by decide +kernel))) hcell hcv hcl ?_
      · intro z hz
        simp at hz
      · refine lv_astore_n (lv' := [(2, .ref q9), (0, .ref (a 0)), (1, .ref qo)]) hx hb dL_call_11 rfl hl (by decide) rfl (fun ls hl => ?_)
        refine lv_iconst (v := 1) hx hb dL_call_12 (by decide) ?_
        refine W.widen (k := 1) (n := 6) (by omega) (by omega) ?_
        exact W.iret (v := 1) hx hb hr (fun t ht hW => ⟨⟨_, (u, fo), rfl, ⟨trivial, hpx⟩, by rw [ht]; exact hP9, hD9⟩, hS.F ht⟩) hS.2.2 dL_call_13
    · refine vx_catch (own := RL) (name := "java/lang/IndexOutOfBoundsException") hown [⟨0, 8, 11, 13⟩] ⟨0, 8, 14, 15⟩ [⟨0, 8, 17, 17⟩, ⟨0, 8, 20, 19⟩, ⟨0, 8, 23, 21⟩, ⟨0, 8, 26, 23⟩] (by rw [htb]; rfl) ?_ (by decide) (by decide) (hts (.classLink RL 15 "java/lang/IndexOutOfBoundsException") (by decide +kernel)) (va_Nw.use rfl (hKL.2.2.1 (.castable "java/lang/IndexOutOfBoundsException" "java/lang/IndexOutOfBoundsException") (by decide +kernel))) hcell hcv hcl ?_
      · intro z hz
        simp only [List.mem_cons, List.not_mem_nil, or_false] at hz
        rcases hz with rfl
        · exact Or.inr ⟨by decide, "java/lang/IllegalStateException", hts (.classLink RL 13 "java/lang/IllegalStateException") (by decide +kernel), hKL.2.2.2.2 ("java/lang/IndexOutOfBoundsException", "java/lang/IllegalStateException") (by decide +kernel)⟩
      · refine lv_astore_n (lv' := [(2, .ref q9), (0, .ref (a 0)), (1, .ref qo)]) hx hb dL_call_14 rfl hl (by decide) rfl (fun ls hl => ?_)
        refine lv_iconst (v := 2) hx hb dL_call_15 (by decide) ?_
        refine W.widen (k := 1) (n := 6) (by omega) (by omega) ?_
        exact W.iret (v := 2) hx hb hr (fun t ht hW => ⟨⟨_, (u, fo), rfl, ⟨trivial, hpx⟩, by rw [ht]; exact hP9, hD9⟩, hS.F ht⟩) hS.2.2 dL_call_16
    · refine vx_catch (own := RL) (name := "java/util/NoSuchElementException") hown [⟨0, 8, 11, 13⟩, ⟨0, 8, 14, 15⟩] ⟨0, 8, 17, 17⟩ [⟨0, 8, 20, 19⟩, ⟨0, 8, 23, 21⟩, ⟨0, 8, 26, 23⟩] (by rw [htb]; rfl) ?_ (by decide) (by decide) (hts (.classLink RL 17 "java/util/NoSuchElementException") (by decide +kernel)) (va_Nw.use rfl (hKL.2.2.1 (.castable "java/util/NoSuchElementException" "java/util/NoSuchElementException") (by decide +kernel))) hcell hcv hcl ?_
      · intro z hz
        simp only [List.mem_cons, List.not_mem_nil, or_false] at hz
        rcases hz with rfl | rfl
        · exact Or.inr ⟨by decide, "java/lang/IllegalStateException", hts (.classLink RL 13 "java/lang/IllegalStateException") (by decide +kernel), hKL.2.2.2.2 ("java/util/NoSuchElementException", "java/lang/IllegalStateException") (by decide +kernel)⟩
        · exact Or.inr ⟨by decide, "java/lang/IndexOutOfBoundsException", hts (.classLink RL 15 "java/lang/IndexOutOfBoundsException") (by decide +kernel), hKL.2.2.2.2 ("java/util/NoSuchElementException", "java/lang/IndexOutOfBoundsException") (by decide +kernel)⟩
      · refine lv_astore_n (lv' := [(2, .ref q9), (0, .ref (a 0)), (1, .ref qo)]) hx hb dL_call_17 rfl hl (by decide) rfl (fun ls hl => ?_)
        refine lv_iconst (v := 3) hx hb dL_call_18 (by decide) ?_
        refine W.widen (k := 1) (n := 6) (by omega) (by omega) ?_
        exact W.iret (v := 3) hx hb hr (fun t ht hW => ⟨⟨_, (u, fo), rfl, ⟨trivial, hpx⟩, by rw [ht]; exact hP9, hD9⟩, hS.F ht⟩) hS.2.2 dL_call_19
    · refine vx_catch (own := RL) (name := "java/lang/ArithmeticException") hown [⟨0, 8, 11, 13⟩, ⟨0, 8, 14, 15⟩, ⟨0, 8, 17, 17⟩] ⟨0, 8, 20, 19⟩ [⟨0, 8, 23, 21⟩, ⟨0, 8, 26, 23⟩] (by rw [htb]; rfl) ?_ (by decide) (by decide) (hts (.classLink RL 19 "java/lang/ArithmeticException") (by decide +kernel)) (va_Nw.use rfl (hKL.2.2.1 (.castable "java/lang/ArithmeticException" "java/lang/ArithmeticException") (by decide +kernel))) hcell hcv hcl ?_
      · intro z hz
        simp only [List.mem_cons, List.not_mem_nil, or_false] at hz
        rcases hz with rfl | rfl | rfl
        · exact Or.inr ⟨by decide, "java/lang/IllegalStateException", hts (.classLink RL 13 "java/lang/IllegalStateException") (by decide +kernel), hKL.2.2.2.2 ("java/lang/ArithmeticException", "java/lang/IllegalStateException") (by decide +kernel)⟩
        · exact Or.inr ⟨by decide, "java/lang/IndexOutOfBoundsException", hts (.classLink RL 15 "java/lang/IndexOutOfBoundsException") (by decide +kernel), hKL.2.2.2.2 ("java/lang/ArithmeticException", "java/lang/IndexOutOfBoundsException") (by decide +kernel)⟩
        · exact Or.inr ⟨by decide, "java/util/NoSuchElementException", hts (.classLink RL 17 "java/util/NoSuchElementException") (by decide +kernel), hKL.2.2.2.2 ("java/lang/ArithmeticException", "java/util/NoSuchElementException") (by decide +kernel)⟩
      · refine lv_astore_n (lv' := [(2, .ref q9), (0, .ref (a 0)), (1, .ref qo)]) hx hb dL_call_20 rfl hl (by decide) rfl (fun ls hl => ?_)
        refine lv_iconst (v := 4) hx hb dL_call_21 (by decide) ?_
        refine W.widen (k := 1) (n := 6) (by omega) (by omega) ?_
        exact W.iret (v := 4) hx hb hr (fun t ht hW => ⟨⟨_, (u, fo), rfl, ⟨trivial, hpx⟩, by rw [ht]; exact hP9, hD9⟩, hS.F ht⟩) hS.2.2 dL_call_22
    · refine vx_catch (own := RL) (name := "java/lang/IllegalArgumentException") hown [⟨0, 8, 11, 13⟩, ⟨0, 8, 14, 15⟩, ⟨0, 8, 17, 17⟩, ⟨0, 8, 20, 19⟩] ⟨0, 8, 23, 21⟩ [⟨0, 8, 26, 23⟩] (by rw [htb]; rfl) ?_ (by decide) (by decide) (hts (.classLink RL 21 "java/lang/IllegalArgumentException") (by decide +kernel)) (va_Nw.use rfl (hKL.2.2.1 (.castable "java/lang/IllegalArgumentException" "java/lang/IllegalArgumentException") (by decide +kernel))) hcell hcv hcl ?_
      · intro z hz
        simp only [List.mem_cons, List.not_mem_nil, or_false] at hz
        rcases hz with rfl | rfl | rfl | rfl
        · exact Or.inr ⟨by decide, "java/lang/IllegalStateException", hts (.classLink RL 13 "java/lang/IllegalStateException") (by decide +kernel), hKL.2.2.2.2 ("java/lang/IllegalArgumentException", "java/lang/IllegalStateException") (by decide +kernel)⟩
        · exact Or.inr ⟨by decide, "java/lang/IndexOutOfBoundsException", hts (.classLink RL 15 "java/lang/IndexOutOfBoundsException") (by decide +kernel), hKL.2.2.2.2 ("java/lang/IllegalArgumentException", "java/lang/IndexOutOfBoundsException") (by decide +kernel)⟩
        · exact Or.inr ⟨by decide, "java/util/NoSuchElementException", hts (.classLink RL 17 "java/util/NoSuchElementException") (by decide +kernel), hKL.2.2.2.2 ("java/lang/IllegalArgumentException", "java/util/NoSuchElementException") (by decide +kernel)⟩
        · exact Or.inr ⟨by decide, "java/lang/ArithmeticException", hts (.classLink RL 19 "java/lang/ArithmeticException") (by decide +kernel), hKL.2.2.2.2 ("java/lang/IllegalArgumentException", "java/lang/ArithmeticException") (by decide +kernel)⟩
      · refine lv_astore_n (lv' := [(2, .ref q9), (0, .ref (a 0)), (1, .ref qo)]) hx hb dL_call_23 rfl hl (by decide) rfl (fun ls hl => ?_)
        refine lv_iconst (v := 5) hx hb dL_call_24 (by decide) ?_
        refine W.widen (k := 1) (n := 6) (by omega) (by omega) ?_
        exact W.iret (v := 5) hx hb hr (fun t ht hW => ⟨⟨_, (u, fo), rfl, ⟨trivial, hpx⟩, by rw [ht]; exact hP9, hD9⟩, hS.F ht⟩) hS.2.2 dL_call_25
    · refine vx_catch (own := RL) (name := "java/lang/UnsupportedOperationException") hown [⟨0, 8, 11, 13⟩, ⟨0, 8, 14, 15⟩, ⟨0, 8, 17, 17⟩, ⟨0, 8, 20, 19⟩, ⟨0, 8, 23, 21⟩] ⟨0, 8, 26, 23⟩ [] (by rw [htb]; rfl) ?_ (by decide) (by decide) (hts (.classLink RL 23 "java/lang/UnsupportedOperationException") (by decide +kernel)) (va_Nw.use rfl (hKL.2.2.1 (.castable "java/lang/UnsupportedOperationException" "java/lang/UnsupportedOperationException") (by decide +kernel))) hcell hcv hcl ?_
      · intro z hz
        simp only [List.mem_cons, List.not_mem_nil, or_false] at hz
        rcases hz with rfl | rfl | rfl | rfl | rfl
        · exact Or.inr ⟨by decide, "java/lang/IllegalStateException", hts (.classLink RL 13 "java/lang/IllegalStateException") (by decide +kernel), hKL.2.2.2.2 ("java/lang/UnsupportedOperationException", "java/lang/IllegalStateException") (by decide +kernel)⟩
        · exact Or.inr ⟨by decide, "java/lang/IndexOutOfBoundsException", hts (.classLink RL 15 "java/lang/IndexOutOfBoundsException") (by decide +kernel), hKL.2.2.2.2 ("java/lang/UnsupportedOperationException", "java/lang/IndexOutOfBoundsException") (by decide +kernel)⟩
        · exact Or.inr ⟨by decide, "java/util/NoSuchElementException", hts (.classLink RL 17 "java/util/NoSuchElementException") (by decide +kernel), hKL.2.2.2.2 ("java/lang/UnsupportedOperationException", "java/util/NoSuchElementException") (by decide +kernel)⟩
        · exact Or.inr ⟨by decide, "java/lang/ArithmeticException", hts (.classLink RL 19 "java/lang/ArithmeticException") (by decide +kernel), hKL.2.2.2.2 ("java/lang/UnsupportedOperationException", "java/lang/ArithmeticException") (by decide +kernel)⟩
        · exact Or.inr ⟨by decide, "java/lang/IllegalArgumentException", hts (.classLink RL 21 "java/lang/IllegalArgumentException") (by decide +kernel), hKL.2.2.2.2 ("java/lang/UnsupportedOperationException", "java/lang/IllegalArgumentException") (by decide +kernel)⟩
      · refine lv_astore_n (lv' := [(2, .ref q9), (0, .ref (a 0)), (1, .ref qo)]) hx hb dL_call_26 rfl hl (by decide) rfl (fun ls hl => ?_)
        refine lv_bipush (v := 6) hx hb dL_call_27 (by decide) ?_
        refine W.widen (k := 1) (n := 6) (by omega) (by omega) ?_
        exact W.iret (v := 6) hx hb hr (fun t ht hW => ⟨⟨_, (u, fo), rfl, ⟨trivial, hpx⟩, by rw [ht]; exact hP9, hD9⟩, hS.F ht⟩) hS.2.2 dL_call_29
  · obtain ⟨hP1, hD1⟩ := hB
    rw [ht] at hP1
    obtain ⟨hP, hD⟩ := va_join (wr := [(qo, .inl (cL, 1, .inr (.inl fo)))]) (w1 := wfC cI a u) hP hD [0, 1, 2, 3, 4, 5, 6, 7, 8, 9, 10, 11] [12] rfl rfl (by decide) (by decide) hk1 hFc hP1 hD1
    refine lv_i2l (v := r.toInt64) hx hb dL_call_6 rfl ?_
    refine va_last (D := D) hx hb hK hP hD hS 0 1 (f := fo) (n := 1) rfl rfl (by unfold vp_in; decide) dL_call_7 (fun H locs hP hD hS => ?_)
    refine lv_goto (tgt := 30) hx hb dL_call_8 (by decide) ?_
    refine lv_iconst (v := 0) hx hb dL_call_30 (by decide) ?_
    have hP9 := hP.sub (ws' := wfC cI a u ++ [(qo, .inl (cL, 1, .inr (.inl (vp_updL fo (0 : Int32).toNatClampNeg r.toInt64))))]) [1, 2, 3, 4, 5, 6, 7, 8, 9, 10, 11, 12, 0] rfl
    have hD9 := hD.sub (ws' := wfC cI a u ++ [(qo, .inl (cL, 1, .inr (.inl (vp_updL fo (0 : Int32).toNatClampNeg r.toInt64))))]) [1, 2, 3, 4, 5, 6, 7, 8, 9, 10, 11, 12, 0] (by decide) rfl
    refine W.widen (k := 1) (n := 6) (by omega) (by omega) ?_
    exact W.iret (v := 0) hx hb hr (fun t ht hW => ⟨⟨_, (u, vp_updL fo (0 : Int32).toNatClampNeg r.toInt64), rfl, ⟨trivial, hw.2⟩, by rw [ht]; exact hP9, hD9⟩, hS.F ht⟩) hS.2.2 dL_call_31
