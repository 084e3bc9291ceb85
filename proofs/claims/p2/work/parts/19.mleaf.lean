set_option maxHeartbeats 4000000 in
set_option maxRecDepth 100000 in
theorem s_X7_note (l : Launch) (D : va_G) (cI : ClassId) (a : Nat → Nat) (sz : Nat) (g : Nat → Int32) (d : Nat → UInt64) (F : Nat → Nat → Int32) (p_ev : Int32) (hI : MI g d F) : Met l yX7_note wsX7_note ({ frames := 0, cells := 0, slots := 0, locals := 0 }) (gP (KM D cI) D (mw cI a g d F) sz [.ref (a 0), .int p_ev]) (va_Qv (fun (u : SS) => (True) ∧ MP g F u) (gB D (wfM cI a) (va_A (mw cI a g d F) sz)) (va_A (mw cI a g d F) sz)) 0 0 (va_A (mw cI a g d F) sz) := by
  refine Met.ofW (cc := cX7_note) (maxL := 3) (ret := none) (by decide) rfl ?_
  intro p e s m args below meth c s₁ B hml hv
  obtain ⟨rfl, hsz, hP, hD0, hKK⟩ := hv
  have hx := B.exec
  have hb := B.bytes
  have hr := B.returns
  have hts := atoms_spec (ws := wsX7_note) B.pre
  have hown : s.vm.findClass RX7 = some m.cls := findClass_of_methodNamed B.named
  have hlocks := B.notSynchronized
  subst hsz
  have hK := hKK.1
  have hok := KM_ok D cI
  have hD := hD0.self (sz := s.heap.size)
  generalize hAe : va_A (mw cI a g d F) s.heap.size = A at hD ⊢
  have hi7 : ∀ w ∈ wsX70, w ∈ wsX7_note := fun w h => List.mem_cons_of_mem _ (List.mem_append_right _ h)
  have hA : ∀ q : Nat, s.heap.size ≤ q → A q := fun q h => by rw [← hAe]; exact Or.inr h
  have hS : va_S A s.heap s.heap [] := va_S.rf
  have hP : va_P D vwCl (mw cI a g d F) s.heap := hP
  have hl := lv_entry ([.ref ((a 0)), .int p_ev]) (n := 3) (Nat.le_of_ble_eq_true rfl)
  rw [lg_entry_eq]
  generalize (lg_sl ([.ref ((a 0)), .int p_ev]) ++ List.replicate (3 - (lg_sl ([.ref ((a 0)), .int p_ev])).length) Slot.unset).toArray = ls at hl ⊢
  have hl : lv_has ls 3 [(0, .ref ((a 0))), (1, .int p_ev)] := hl
  refine lv_bipush (v := 7) hx hb dX7_note_0 (by decide) ?_
  refine lv_istore_n (lv' := [(2, .int 7), (0, .ref ((a 0))), (1, .int p_ev)]) hx hb dX7_note_2 rfl hl (by decide) rfl (fun ls hl => ?_)
  refine lv_iload_n hx hb dX7_note_3 rfl (lv_at hl 0 rfl) ?_
  refine lv_if_le (tgt := 27) hx hb dX7_note_4 (by decide) (fun c1 => ?_) (fun c1 => ?_)
  · exact absurd c1 (by decide)
  · refine lv_aload_n hx hb dX7_note_7 rfl (lv_at hl 1 rfl) ?_
    refine va_get (D := D) (ci := 7) (v := .ref ((a 6))) (C := RX7) (T := TX7) (N := 41) hx hb hts hi7 hown hK hP 0 rfl rfl 40 (by decide) (hts (.fieldLink RX7 89 "GuardedCallsModel" "events" "[I") (by decide +kernel)) (fun _ h9 => h9) rfl dX7_note_8 ?_
    refine lv_iload_n hx hb dX7_note_11 rfl (lv_at hl 0 rfl) ?_
    refine lv_aload_n hx hb dX7_note_12 rfl (lv_at hl 1 rfl) ?_
    refine va_get (D := D) (ci := 7) (v := .ref ((a 6))) (C := RX7) (T := TX7) (N := 41) hx hb hts hi7 hown hK hP 0 rfl rfl 40 (by decide) (hts (.fieldLink RX7 89 "GuardedCallsModel" "events" "[I") (by decide +kernel)) (fun _ h9 => h9) rfl dX7_note_13 ?_
    refine lv_iload_n hx hb dX7_note_16 rfl (lv_at hl 0 rfl) ?_
    refine lv_iconst (v := 1) hx hb dX7_note_17 (by decide) ?_
    refine lv_isub hx hb dX7_note_18 ?_
    refine lv_topi (fun x2 e2 => ?_)
    obtain rfl : x2 = 6 := e2.trans (by decide)
    refine va_iald (D := D) hx hb hK hP 6 0 (f := (F 5)) (n := 8) rfl rfl (by unfold vp_in; decide) dX7_note_19 ?_
    refine lv_topi (fun x3 e3 => ?_)
    refine va_iast (D := D) hx hb hK hP hD hS 6 0 (f := (F 5)) (n := 8) rfl rfl (by unfold vp_in; decide) dX7_note_20 (fun H locs hP hD hS => ?_)
    have hP : va_P D vwCl (mw cI a g d (vf_upd F 5 (upd (F 5) (7 : Int32).toNatClampNeg x3))) H := hP
    have hD : va_D A (mw cI a g d (vf_upd F 5 (upd (F 5) (7 : Int32).toNatClampNeg x3))) := hD
    refine lv_iinc (v := 6) (lv' := [(2, .int 6), (0, .ref ((a 0))), (1, .int p_ev)]) hx hb dX7_note_21 hl (k := 0) rfl (by decide) (by decide) rfl (fun ls hl => ?_)
    refine lv_goto (tgt := 3) hx hb dX7_note_24 (by decide) ?_
    refine lv_iload_n hx hb dX7_note_3 rfl (lv_at hl 0 rfl) ?_
    refine lv_if_le (tgt := 27) hx hb dX7_note_4 (by decide) (fun c4 => ?_) (fun c4 => ?_)
    · exact absurd c4 (by decide)
    · refine lv_aload_n hx hb dX7_note_7 rfl (lv_at hl 1 rfl) ?_
      refine va_get (D := D) (ci := 7) (v := .ref ((a 6))) (C := RX7) (T := TX7) (N := 41) hx hb hts hi7 hown hK hP 0 rfl rfl 40 (by decide) (hts (.fieldLink RX7 89 "GuardedCallsModel" "events" "[I") (by decide +kernel)) (fun _ h9 => h9) rfl dX7_note_8 ?_
      refine lv_iload_n hx hb dX7_note_11 rfl (lv_at hl 0 rfl) ?_
      refine lv_aload_n hx hb dX7_note_12 rfl (lv_at hl 1 rfl) ?_
      refine va_get (D := D) (ci := 7) (v := .ref ((a 6))) (C := RX7) (T := TX7) (N := 41) hx hb hts hi7 hown hK hP 0 rfl rfl 40 (by decide) (hts (.fieldLink RX7 89 "GuardedCallsModel" "events" "[I") (by decide +kernel)) (fun _ h9 => h9) rfl dX7_note_13 ?_
      refine lv_iload_n hx hb dX7_note_16 rfl (lv_at hl 0 rfl) ?_
      refine lv_iconst (v := 1) hx hb dX7_note_17 (by decide) ?_
      refine lv_isub hx hb dX7_note_18 ?_
      refine lv_topi (fun x5 e5 => ?_)
      obtain rfl : x5 = 5 := e5.trans (by decide)
      refine va_iald (D := D) hx hb hK hP 6 0 (f := (upd (F 5) (7 : Int32).toNatClampNeg x3)) (n := 8) rfl rfl (by unfold vp_in; decide) dX7_note_19 ?_
      refine lv_topi (fun x6 e6 => ?_)
      refine va_iast (D := D) hx hb hK hP hD hS 6 0 (f := (upd (F 5) (7 : Int32).toNatClampNeg x3)) (n := 8) rfl rfl (by unfold vp_in; decide) dX7_note_20 (fun H locs hP hD hS => ?_)
      have hP : va_P D vwCl (mw cI a g d (vf_upd (vf_upd F 5 (upd (F 5) (7 : Int32).toNatClampNeg x3)) 5 (upd (upd (F 5) (7 : Int32).toNatClampNeg x3) (6 : Int32).toNatClampNeg x6))) H := hP
      have hD : va_D A (mw cI a g d (vf_upd (vf_upd F 5 (upd (F 5) (7 : Int32).toNatClampNeg x3)) 5 (upd (upd (F 5) (7 : Int32).toNatClampNeg x3) (6 : Int32).toNatClampNeg x6))) := hD
      refine lv_iinc (v := 5) (lv' := [(2, .int 5), (0, .ref ((a 0))), (1, .int p_ev)]) hx hb dX7_note_21 hl (k := 0) rfl (by decide) (by decide) rfl (fun ls hl => ?_)
      refine lv_goto (tgt := 3) hx hb dX7_note_24 (by decide) ?_
      refine lv_iload_n hx hb dX7_note_3 rfl (lv_at hl 0 rfl) ?_
      refine lv_if_le (tgt := 27) hx hb dX7_note_4 (by decide) (fun c7 => ?_) (fun c7 => ?_)
      · exact absurd c7 (by decide)
      · refine lv_aload_n hx hb dX7_note_7 rfl (lv_at hl 1 rfl) ?_
        refine va_get (D := D) (ci := 7) (v := .ref ((a 6))) (C := RX7) (T := TX7) (N := 41) hx hb hts hi7 hown hK hP 0 rfl rfl 40 (by decide) (hts (.fieldLink RX7 89 "GuardedCallsModel" "events" "[I") (by decide +kernel)) (fun _ h9 => h9) rfl dX7_note_8 ?_
        refine lv_iload_n hx hb dX7_note_11 rfl (lv_at hl 0 rfl) ?_
        refine lv_aload_n hx hb dX7_note_12 rfl (lv_at hl 1 rfl) ?_
        refine va_get (D := D) (ci := 7) (v := .ref ((a 6))) (C := RX7) (T := TX7) (N := 41) hx hb hts hi7 hown hK hP 0 rfl rfl 40 (by decide) (hts (.fieldLink RX7 89 "GuardedCallsModel" "events" "[I") (by decide +kernel)) (fun _ h9 => h9) rfl dX7_note_13 ?_
        refine lv_iload_n hx hb dX7_note_16 rfl (lv_at hl 0 rfl) ?_
        refine lv_iconst (v := 1) hx hb dX7_note_17 (by decide) ?_
        refine lv_isub hx hb dX7_note_18 ?_
        refine lv_topi (fun x8 e8 => ?_)
        obtain rfl : x8 = 4 := e8.trans (by decide)
        refine va_iald (D := D) hx hb hK hP 6 0 (f := (upd (upd (F 5) (7 : Int32).toNatClampNeg x3) (6 : Int32).toNatClampNeg x6)) (n := 8) rfl rfl (by unfold vp_in; decide) dX7_note_19 ?_
        refine lv_topi (fun x9 e9 => ?_)
        refine va_iast (D := D) hx hb hK hP hD hS 6 0 (f := (upd (upd (F 5) (7 : Int32).toNatClampNeg x3) (6 : Int32).toNatClampNeg x6)) (n := 8) rfl rfl (by unfold vp_in; decide) dX7_note_20 (fun H locs hP hD hS => ?_)
        have hP : va_P D vwCl (mw cI a g d (vf_upd (vf_upd (vf_upd F 5 (upd (F 5) (7 : Int32).toNatClampNeg x3)) 5 (upd (upd (F 5) (7 : Int32).toNatClampNeg x3) (6 : Int32).toNatClampNeg x6)) 5 (upd (upd (upd (F 5) (7 : Int32).toNatClampNeg x3) (6 : Int32).toNatClampNeg x6) (5 : Int32).toNatClampNeg x9))) H := hP
        have hD : va_D A (mw cI a g d (vf_upd (vf_upd (vf_upd F 5 (upd (F 5) (7 : Int32).toNatClampNeg x3)) 5 (upd (upd (F 5) (7 : Int32).toNatClampNeg x3) (6 : Int32).toNatClampNeg x6)) 5 (upd (upd (upd (F 5) (7 : Int32).toNatClampNeg x3) (6 : Int32).toNatClampNeg x6) (5 : Int32).toNatClampNeg x9))) := hD
        refine lv_iinc (v := 4) (lv' := [(2, .int 4), (0, .ref ((a 0))), (1, .int p_ev)]) hx hb dX7_note_21 hl (k := 0) rfl (by decide) (by decide) rfl (fun ls hl => ?_)
        refine lv_goto (tgt := 3) hx hb dX7_note_24 (by decide) ?_
        refine lv_iload_n hx hb dX7_note_3 rfl (lv_at hl 0 rfl) ?_
        refine lv_if_le (tgt := 27) hx hb dX7_note_4 (by decide) (fun c10 => ?_) (fun c10 => ?_)
        · exact absurd c10 (by decide)
        · refine lv_aload_n hx hb dX7_note_7 rfl (lv_at hl 1 rfl) ?_
          refine va_get (D := D) (ci := 7) (v := .ref ((a 6))) (C := RX7) (T := TX7) (N := 41) hx hb hts hi7 hown hK hP 0 rfl rfl 40 (by decide) (hts (.fieldLink RX7 89 "GuardedCallsModel" "events" "[I") (by decide +kernel)) (fun _ h9 => h9) rfl dX7_note_8 ?_
          refine lv_iload_n hx hb dX7_note_11 rfl (lv_at hl 0 rfl) ?_
          refine lv_aload_n hx hb dX7_note_12 rfl (lv_at hl 1 rfl) ?_
          refine va_get (D := D) (ci := 7) (v := .ref ((a 6))) (C := RX7) (T := TX7) (N := 41) hx hb hts hi7 hown hK hP 0 rfl rfl 40 (by decide) (hts (.fieldLink RX7 89 "GuardedCallsModel" "events" "[I") (by decide +kernel)) (fun _ h9 => h9) rfl dX7_note_13 ?_
          refine lv_iload_n hx hb dX7_note_16 rfl (lv_at hl 0 rfl) ?_
          refine lv_iconst (v := 1) hx hb dX7_note_17 (by decide) ?_
          refine lv_isub hx hb dX7_note_18 ?_
          refine lv_topi (fun x11 e11 => ?_)
          obtain rfl : x11 = 3 := e11.trans (by decide)
          refine va_iald (D := D) hx hb hK hP 6 0 (f := (upd (upd (upd (F 5) (7 : Int32).toNatClampNeg x3) (6 : Int32).toNatClampNeg x6) (5 : Int32).toNatClampNeg x9)) (n := 8) rfl rfl (by unfold vp_in; decide) dX7_note_19 ?_
          refine lv_topi (fun x12 e12 => ?_)
          refine va_iast (D := D) hx hb hK hP hD hS 6 0 (f := (upd (upd (upd (F 5) (7 : Int32).toNatClampNeg x3) (6 : Int32).toNatClampNeg x6) (5 : Int32).toNatClampNeg x9)) (n := 8) rfl rfl (by unfold vp_in; decide) dX7_note_20 (fun H locs hP hD hS => ?_)
          have hP : va_P D vwCl (mw cI a g d (vf_upd (vf_upd (vf_upd (vf_upd F 5 (upd (F 5) (7 : Int32).toNatClampNeg x3)) 5 (upd (upd (F 5) (7 : Int32).toNatClampNeg x3) (6 : Int32).toNatClampNeg x6)) 5 (upd (upd (upd (F 5) (7 : Int32).toNatClampNeg x3) (6 : Int32).toNatClampNeg x6) (5 : Int32).toNatClampNeg x9)) 5 (upd (upd (upd (upd (F 5) (7 : Int32).toNatClampNeg x3) (6 : Int32).toNatClampNeg x6) (5 : Int32).toNatClampNeg x9) (4 : Int32).toNatClampNeg x12))) H := hP
          have hD : va_D A (mw cI a g d (vf_upd (vf_upd (vf_upd (vf_upd F 5 (upd (F 5) (7 : Int32).toNatClampNeg x3)) 5 (upd (upd (F 5) (7 : Int32).toNatClampNeg x3) (6 : Int32).toNatClampNeg x6)) 5 (upd (upd (upd (F 5) (7 : Int32).toNatClampNeg x3) (6 : Int32).toNatClampNeg x6) (5 : Int32).toNatClampNeg x9)) 5 (upd (upd (upd (upd (F 5) (7 : Int32).toNatClampNeg x3) (6 : Int32).toNatClampNeg x6) (5 : Int32).toNatClampNeg x9) (4 : Int32).toNatClampNeg x12))) := hD
          refine lv_iinc (v := 3) (lv' := [(2, .int 3), (0, .ref ((a 0))), (1, .int p_ev)]) hx hb dX7_note_21 hl (k := 0) rfl (by decide) (by decide) rfl (fun ls hl => ?_)
          refine lv_goto (tgt := 3) hx hb dX7_note_24 (by decide) ?_
          refine lv_iload_n hx hb dX7_note_3 rfl (lv_at hl 0 rfl) ?_
          refine lv_if_le (tgt := 27) hx hb dX7_note_4 (by decide) (fun c13 => ?_) (fun c13 => ?_)
          · exact absurd c13 (by decide)
          · refine lv_aload_n hx hb dX7_note_7 rfl (lv_at hl 1 rfl) ?_
            refine va_get (D := D) (ci := 7) (v := .ref ((a 6))) (C := RX7) (T := TX7) (N := 41) hx hb hts hi7 hown hK hP 0 rfl rfl 40 (by decide) (hts (.fieldLink RX7 89 "GuardedCallsModel" "events" "[I") (by decide +kernel)) (fun _ h9 => h9) rfl dX7_note_8 ?_
            refine lv_iload_n hx hb dX7_note_11 rfl (lv_at hl 0 rfl) ?_
            refine lv_aload_n hx hb dX7_note_12 rfl (lv_at hl 1 rfl) ?_
            refine va_get (D := D) (ci := 7) (v := .ref ((a 6))) (C := RX7) (T := TX7) (N := 41) hx hb hts hi7 hown hK hP 0 rfl rfl 40 (by decide) (hts (.fieldLink RX7 89 "GuardedCallsModel" "events" "[I") (by decide +kernel)) (fun _ h9 => h9) rfl dX7_note_13 ?_
            refine lv_iload_n hx hb dX7_note_16 rfl (lv_at hl 0 rfl) ?_
            refine lv_iconst (v := 1) hx hb dX7_note_17 (by decide) ?_
            refine lv_isub hx hb dX7_note_18 ?_
            refine lv_topi (fun x14 e14 => ?_)
            obtain rfl : x14 = 2 := e14.trans (by decide)
            refine va_iald (D := D) hx hb hK hP 6 0 (f := (upd (upd (upd (upd (F 5) (7 : Int32).toNatClampNeg x3) (6 : Int32).toNatClampNeg x6) (5 : Int32).toNatClampNeg x9) (4 : Int32).toNatClampNeg x12)) (n := 8) rfl rfl (by unfold vp_in; decide) dX7_note_19 ?_
            refine lv_topi (fun x15 e15 => ?_)
            refine va_iast (D := D) hx hb hK hP hD hS 6 0 (f := (upd (upd (upd (upd (F 5) (7 : Int32).toNatClampNeg x3) (6 : Int32).toNatClampNeg x6) (5 : Int32).toNatClampNeg x9) (4 : Int32).toNatClampNeg x12)) (n := 8) rfl rfl (by unfold vp_in; decide) dX7_note_20 (fun H locs hP hD hS => ?_)
            have hP : va_P D vwCl (mw cI a g d (vf_upd (vf_upd (vf_upd (vf_upd (vf_upd F 5 (upd (F 5) (7 : Int32).toNatClampNeg x3)) 5 (upd (upd (F 5) (7 : Int32).toNatClampNeg x3) (6 : Int32).toNatClampNeg x6)) 5 (upd (upd (upd (F 5) (7 : Int32).toNatClampNeg x3) (6 : Int32).toNatClampNeg x6) (5 : Int32).toNatClampNeg x9)) 5 (upd (upd (upd (upd (F 5) (7 : Int32).toNatClampNeg x3) (6 : Int32).toNatClampNeg x6) (5 : Int32).toNatClampNeg x9) (4 : Int32).toNatClampNeg x12)) 5 (upd (upd (upd (upd (upd (F 5) (7 : Int32).toNatClampNeg x3) (6 : Int32).toNatClampNeg x6) (5 : Int32).toNatClampNeg x9) (4 : Int32).toNatClampNeg x12) (3 : Int32).toNatClampNeg x15))) H := hP
            have hD : va_D A (mw cI a g d (vf_upd (vf_upd (vf_upd (vf_upd (vf_upd F 5 (upd (F 5) (7 : Int32).toNatClampNeg x3)) 5 (upd (upd (F 5) (7 : Int32).toNatClampNeg x3) (6 : Int32).toNatClampNeg x6)) 5 (upd (upd (upd (F 5) (7 : Int32).toNatClampNeg x3) (6 : Int32).toNatClampNeg x6) (5 : Int32).toNatClampNeg x9)) 5 (upd (upd (upd (upd (F 5) (7 : Int32).toNatClampNeg x3) (6 : Int32).toNatClampNeg x6) (5 : Int32).toNatClampNeg x9) (4 : Int32).toNatClampNeg x12)) 5 (upd (upd (upd (upd (upd (F 5) (7 : Int32).toNatClampNeg x3) (6 : Int32).toNatClampNeg x6) (5 : Int32).toNatClampNeg x9) (4 : Int32).toNatClampNeg x12) (3 : Int32).toNatClampNeg x15))) := hD
            refine lv_iinc (v := 2) (lv' := [(2, .int 2), (0, .ref ((a 0))), (1, .int p_ev)]) hx hb dX7_note_21 hl (k := 0) rfl (by decide) (by decide) rfl (fun ls hl => ?_)
            refine lv_goto (tgt := 3) hx hb dX7_note_24 (by decide) ?_
            refine lv_iload_n hx hb dX7_note_3 rfl (lv_at hl 0 rfl) ?_
            refine lv_if_le (tgt := 27) hx hb dX7_note_4 (by decide) (fun c16 => ?_) (fun c16 => ?_)
            · exact absurd c16 (by decide)
            · refine lv_aload_n hx hb dX7_note_7 rfl (lv_at hl 1 rfl) ?_
              refine va_get (D := D) (ci := 7) (v := .ref ((a 6))) (C := RX7) (T := TX7) (N := 41) hx hb hts hi7 hown hK hP 0 rfl rfl 40 (by decide) (hts (.fieldLink RX7 89 "GuardedCallsModel" "events" "[I") (by decide +kernel)) (fun _ h9 => h9) rfl dX7_note_8 ?_
              refine lv_iload_n hx hb dX7_note_11 rfl (lv_at hl 0 rfl) ?_
              refine lv_aload_n hx hb dX7_note_12 rfl (lv_at hl 1 rfl) ?_
              refine va_get (D := D) (ci := 7) (v := .ref ((a 6))) (C := RX7) (T := TX7) (N := 41) hx hb hts hi7 hown hK hP 0 rfl rfl 40 (by decide) (hts (.fieldLink RX7 89 "GuardedCallsModel" "events" "[I") (by decide +kernel)) (fun _ h9 => h9) rfl dX7_note_13 ?_
              refine lv_iload_n hx hb dX7_note_16 rfl (lv_at hl 0 rfl) ?_
              refine lv_iconst (v := 1) hx hb dX7_note_17 (by decide) ?_
              refine lv_isub hx hb dX7_note_18 ?_
              refine lv_topi (fun x17 e17 => ?_)
              obtain rfl : x17 = 1 := e17.trans (by decide)
              refine va_iald (D := D) hx hb hK hP 6 0 (f := (upd (upd (upd (upd (upd (F 5) (7 : Int32).toNatClampNeg x3) (6 : Int32).toNatClampNeg x6) (5 : Int32).toNatClampNeg x9) (4 : Int32).toNatClampNeg x12) (3 : Int32).toNatClampNeg x15)) (n := 8) rfl rfl (by unfold vp_in; decide) dX7_note_19 ?_
              refine lv_topi (fun x18 e18 => ?_)
              refine va_iast (D := D) hx hb hK hP hD hS 6 0 (f := (upd (upd (upd (upd (upd (F 5) (7 : Int32).toNatClampNeg x3) (6 : Int32).toNatClampNeg x6) (5 : Int32).toNatClampNeg x9) (4 : Int32).toNatClampNeg x12) (3 : Int32).toNatClampNeg x15)) (n := 8) rfl rfl (by unfold vp_in; decide) dX7_note_20 (fun H locs hP hD hS => ?_)
              have hP : va_P D vwCl (mw cI a g d (vf_upd (vf_upd (vf_upd (vf_upd (vf_upd (vf_upd F 5 (upd (F 5) (7 : Int32).toNatClampNeg x3)) 5 (upd (upd (F 5) (7 : Int32).toNatClampNeg x3) (6 : Int32).toNatClampNeg x6)) 5 (upd (upd (upd (F 5) (7 : Int32).toNatClampNeg x3) (6 : Int32).toNatClampNeg x6) (5 : Int32).toNatClampNeg x9)) 5 (upd (upd (upd (upd (F 5) (7 : Int32).toNatClampNeg x3) (6 : Int32).toNatClampNeg x6) (5 : Int32).toNatClampNeg x9) (4 : Int32).toNatClampNeg x12)) 5 (upd (upd (upd (upd (upd (F 5) (7 : Int32).toNatClampNeg x3) (6 : Int32).toNatClampNeg x6) (5 : Int32).toNatClampNeg x9) (4 : Int32).toNatClampNeg x12) (3 : Int32).toNatClampNeg x15)) 5 (upd (upd (upd (upd (upd (upd (F 5) (7 : Int32).toNatClampNeg x3) (6 : Int32).toNatClampNeg x6) (5 : Int32).toNatClampNeg x9) (4 : Int32).toNatClampNeg x12) (3 : Int32).toNatClampNeg x15) (2 : Int32).toNatClampNeg x18))) H := hP
              have hD : va_D A (mw cI a g d (vf_upd (vf_upd (vf_upd (vf_upd (vf_upd (vf_upd F 5 (upd (F 5) (7 : Int32).toNatClampNeg x3)) 5 (upd (upd (F 5) (7 : Int32).toNatClampNeg x3) (6 : Int32).toNatClampNeg x6)) 5 (upd (upd (upd (F 5) (7 : Int32).toNatClampNeg x3) (6 : Int32).toNatClampNeg x6) (5 : Int32).toNatClampNeg x9)) 5 (upd (upd (upd (upd (F 5) (7 : Int32).toNatClampNeg x3) (6 : Int32).toNatClampNeg x6) (5 : Int32).toNatClampNeg x9) (4 : Int32).toNatClampNeg x12)) 5 (upd (upd (upd (upd (upd (F 5) (7 : Int32).toNatClampNeg x3) (6 : Int32).toNatClampNeg x6) (5 : Int32).toNatClampNeg x9) (4 : Int32).toNatClampNeg x12) (3 : Int32).toNatClampNeg x15)) 5 (upd (upd (upd (upd (upd (upd (F 5) (7 : Int32).toNatClampNeg x3) (6 : Int32).toNatClampNeg x6) (5 : Int32).toNatClampNeg x9) (4 : Int32).toNatClampNeg x12) (3 : Int32).toNatClampNeg x15) (2 : Int32).toNatClampNeg x18))) := hD
              refine lv_iinc (v := 1) (lv' := [(2, .int 1), (0, .ref ((a 0))), (1, .int p_ev)]) hx hb dX7_note_21 hl (k := 0) rfl (by decide) (by decide) rfl (fun ls hl => ?_)
              refine lv_goto (tgt := 3) hx hb dX7_note_24 (by decide) ?_
              refine lv_iload_n hx hb dX7_note_3 rfl (lv_at hl 0 rfl) ?_
              refine lv_if_le (tgt := 27) hx hb dX7_note_4 (by decide) (fun c19 => ?_) (fun c19 => ?_)
              · exact absurd c19 (by decide)
              · refine lv_aload_n hx hb dX7_note_7 rfl (lv_at hl 1 rfl) ?_
                refine va_get (D := D) (ci := 7) (v := .ref ((a 6))) (C := RX7) (T := TX7) (N := 41) hx hb hts hi7 hown hK hP 0 rfl rfl 40 (by decide) (hts (.fieldLink RX7 89 "GuardedCallsModel" "events" "[I") (by decide +kernel)) (fun _ h9 => h9) rfl dX7_note_8 ?_
                refine lv_iload_n hx hb dX7_note_11 rfl (lv_at hl 0 rfl) ?_
                refine lv_aload_n hx hb dX7_note_12 rfl (lv_at hl 1 rfl) ?_
                refine va_get (D := D) (ci := 7) (v := .ref ((a 6))) (C := RX7) (T := TX7) (N := 41) hx hb hts hi7 hown hK hP 0 rfl rfl 40 (by decide) (hts (.fieldLink RX7 89 "GuardedCallsModel" "events" "[I") (by decide +kernel)) (fun _ h9 => h9) rfl dX7_note_13 ?_
                refine lv_iload_n hx hb dX7_note_16 rfl (lv_at hl 0 rfl) ?_
                refine lv_iconst (v := 1) hx hb dX7_note_17 (by decide) ?_
                refine lv_isub hx hb dX7_note_18 ?_
                refine lv_topi (fun x20 e20 => ?_)
                obtain rfl : x20 = 0 := e20.trans (by decide)
                refine va_iald (D := D) hx hb hK hP 6 0 (f := (upd (upd (upd (upd (upd (upd (F 5) (7 : Int32).toNatClampNeg x3) (6 : Int32).toNatClampNeg x6) (5 : Int32).toNatClampNeg x9) (4 : Int32).toNatClampNeg x12) (3 : Int32).toNatClampNeg x15) (2 : Int32).toNatClampNeg x18)) (n := 8) rfl rfl (by unfold vp_in; decide) dX7_note_19 ?_
                refine lv_topi (fun x21 e21 => ?_)
                refine va_iast (D := D) hx hb hK hP hD hS 6 0 (f := (upd (upd (upd (upd (upd (upd (F 5) (7 : Int32).toNatClampNeg x3) (6 : Int32).toNatClampNeg x6) (5 : Int32).toNatClampNeg x9) (4 : Int32).toNatClampNeg x12) (3 : Int32).toNatClampNeg x15) (2 : Int32).toNatClampNeg x18)) (n := 8) rfl rfl (by unfold vp_in; decide) dX7_note_20 (fun H locs hP hD hS => ?_)
                have hP : va_P D vwCl (mw cI a g d (vf_upd (vf_upd (vf_upd (vf_upd (vf_upd (vf_upd (vf_upd F 5 (upd (F 5) (7 : Int32).toNatClampNeg x3)) 5 (upd (upd (F 5) (7 : Int32).toNatClampNeg x3) (6 : Int32).toNatClampNeg x6)) 5 (upd (upd (upd (F 5) (7 : Int32).toNatClampNeg x3) (6 : Int32).toNatClampNeg x6) (5 : Int32).toNatClampNeg x9)) 5 (upd (upd (upd (upd (F 5) (7 : Int32).toNatClampNeg x3) (6 : Int32).toNatClampNeg x6) (5 : Int32).toNatClampNeg x9) (4 : Int32).toNatClampNeg x12)) 5 (upd (upd (upd (upd (upd (F 5) (7 : Int32).toNatClampNeg x3) (6 : Int32).toNatClampNeg x6) (5 : Int32).toNatClampNeg x9) (4 : Int32).toNatClampNeg x12) (3 : Int32).toNatClampNeg x15)) 5 (upd (upd (upd (upd (upd (upd (F 5) (7 : Int32).toNatClampNeg x3) (6 : Int32).toNatClampNeg x6) (5 : Int32).toNatClampNeg x9) (4 : Int32).toNatClampNeg x12) (3 : Int32).toNatClampNeg x15) (2 : Int32).toNatClampNeg x18)) 5 (upd (upd (upd (upd (upd (upd (upd (F 5) (7 : Int32).toNatClampNeg x3) (6 : Int32).toNatClampNeg x6) (5 : Int32).toNatClampNeg x9) (4 : Int32).toNatClampNeg x12) (3 : Int32).toNatClampNeg x15) (2 : Int32).toNatClampNeg x18) (1 : Int32).toNatClampNeg x21))) H := hP
                have hD : va_D A (mw cI a g d (vf_upd (vf_upd (vf_upd (vf_upd (vf_upd (vf_upd (vf_upd F 5 (upd (F 5) (7 : Int32).toNatClampNeg x3)) 5 (upd (upd (F 5) (7 : Int32).toNatClampNeg x3) (6 : Int32).toNatClampNeg x6)) 5 (upd (upd (upd (F 5) (7 : Int32).toNatClampNeg x3) (6 : Int32).toNatClampNeg x6) (5 : Int32).toNatClampNeg x9)) 5 (upd (upd (upd (upd (F 5) (7 : Int32).toNatClampNeg x3) (6 : Int32).toNatClampNeg x6) (5 : Int32).toNatClampNeg x9) (4 : Int32).toNatClampNeg x12)) 5 (upd (upd (upd (upd (upd (F 5) (7 : Int32).toNatClampNeg x3) (6 : Int32).toNatClampNeg x6) (5 : Int32).toNatClampNeg x9) (4 : Int32).toNatClampNeg x12) (3 : Int32).toNatClampNeg x15)) 5 (upd (upd (upd (upd (upd (upd (F 5) (7 : Int32).toNatClampNeg x3) (6 : Int32).toNatClampNeg x6) (5 : Int32).toNatClampNeg x9) (4 : Int32).toNatClampNeg x12) (3 : Int32).toNatClampNeg x15) (2 : Int32).toNatClampNeg x18)) 5 (upd (upd (upd (upd (upd (upd (upd (F 5) (7 : Int32).toNatClampNeg x3) (6 : Int32).toNatClampNeg x6) (5 : Int32).toNatClampNeg x9) (4 : Int32).toNatClampNeg x12) (3 : Int32).toNatClampNeg x15) (2 : Int32).toNatClampNeg x18) (1 : Int32).toNatClampNeg x21))) := hD
                refine lv_iinc (v := 0) (lv' := [(2, .int 0), (0, .ref ((a 0))), (1, .int p_ev)]) hx hb dX7_note_21 hl (k := 0) rfl (by decide) (by decide) rfl (fun ls hl => ?_)
                refine lv_goto (tgt := 3) hx hb dX7_note_24 (by decide) ?_
                refine lv_iload_n hx hb dX7_note_3 rfl (lv_at hl 0 rfl) ?_
                refine lv_if_le (tgt := 27) hx hb dX7_note_4 (by decide) (fun c22 => ?_) (fun c22 => ?_)
                · refine lv_aload_n hx hb dX7_note_27 rfl (lv_at hl 1 rfl) ?_
                  refine va_get (D := D) (ci := 7) (v := .ref ((a 6))) (C := RX7) (T := TX7) (N := 41) hx hb hts hi7 hown hK hP 0 rfl rfl 40 (by decide) (hts (.fieldLink RX7 89 "GuardedCallsModel" "events" "[I") (by decide +kernel)) (fun _ h9 => h9) rfl dX7_note_28 ?_
                  refine lv_iconst (v := 0) hx hb dX7_note_31 (by decide) ?_
                  refine lv_iload_n hx hb dX7_note_32 rfl (lv_at hl 2 rfl) ?_
                  refine va_iast (D := D) hx hb hK hP hD hS 6 0 (f := (upd (upd (upd (upd (upd (upd (upd (F 5) (7 : Int32).toNatClampNeg x3) (6 : Int32).toNatClampNeg x6) (5 : Int32).toNatClampNeg x9) (4 : Int32).toNatClampNeg x12) (3 : Int32).toNatClampNeg x15) (2 : Int32).toNatClampNeg x18) (1 : Int32).toNatClampNeg x21)) (n := 8) rfl rfl (by unfold vp_in; decide) dX7_note_33 (fun H locs hP hD hS => ?_)
                  have hP : va_P D vwCl (mw cI a g d (vf_upd (vf_upd (vf_upd (vf_upd (vf_upd (vf_upd (vf_upd (vf_upd F 5 (upd (F 5) (7 : Int32).toNatClampNeg x3)) 5 (upd (upd (F 5) (7 : Int32).toNatClampNeg x3) (6 : Int32).toNatClampNeg x6)) 5 (upd (upd (upd (F 5) (7 : Int32).toNatClampNeg x3) (6 : Int32).toNatClampNeg x6) (5 : Int32).toNatClampNeg x9)) 5 (upd (upd (upd (upd (F 5) (7 : Int32).toNatClampNeg x3) (6 : Int32).toNatClampNeg x6) (5 : Int32).toNatClampNeg x9) (4 : Int32).toNatClampNeg x12)) 5 (upd (upd (upd (upd (upd (F 5) (7 : Int32).toNatClampNeg x3) (6 : Int32).toNatClampNeg x6) (5 : Int32).toNatClampNeg x9) (4 : Int32).toNatClampNeg x12) (3 : Int32).toNatClampNeg x15)) 5 (upd (upd (upd (upd (upd (upd (F 5) (7 : Int32).toNatClampNeg x3) (6 : Int32).toNatClampNeg x6) (5 : Int32).toNatClampNeg x9) (4 : Int32).toNatClampNeg x12) (3 : Int32).toNatClampNeg x15) (2 : Int32).toNatClampNeg x18)) 5 (upd (upd (upd (upd (upd (upd (upd (F 5) (7 : Int32).toNatClampNeg x3) (6 : Int32).toNatClampNeg x6) (5 : Int32).toNatClampNeg x9) (4 : Int32).toNatClampNeg x12) (3 : Int32).toNatClampNeg x15) (2 : Int32).toNatClampNeg x18) (1 : Int32).toNatClampNeg x21)) 5 (upd (upd (upd (upd (upd (upd (upd (upd (F 5) (7 : Int32).toNatClampNeg x3) (6 : Int32).toNatClampNeg x6) (5 : Int32).toNatClampNeg x9) (4 : Int32).toNatClampNeg x12) (3 : Int32).toNatClampNeg x15) (2 : Int32).toNatClampNeg x18) (1 : Int32).toNatClampNeg x21) (0 : Int32).toNatClampNeg p_ev))) H := hP
                  have hD : va_D A (mw cI a g d (vf_upd (vf_upd (vf_upd (vf_upd (vf_upd (vf_upd (vf_upd (vf_upd F 5 (upd (F 5) (7 : Int32).toNatClampNeg x3)) 5 (upd (upd (F 5) (7 : Int32).toNatClampNeg x3) (6 : Int32).toNatClampNeg x6)) 5 (upd (upd (upd (F 5) (7 : Int32).toNatClampNeg x3) (6 : Int32).toNatClampNeg x6) (5 : Int32).toNatClampNeg x9)) 5 (upd (upd (upd (upd (F 5) (7 : Int32).toNatClampNeg x3) (6 : Int32).toNatClampNeg x6) (5 : Int32).toNatClampNeg x9) (4 : Int32).toNatClampNeg x12)) 5 (upd (upd (upd (upd (upd (F 5) (7 : Int32).toNatClampNeg x3) (6 : Int32).toNatClampNeg x6) (5 : Int32).toNatClampNeg x9) (4 : Int32).toNatClampNeg x12) (3 : Int32).toNatClampNeg x15)) 5 (upd (upd (upd (upd (upd (upd (F 5) (7 : Int32).toNatClampNeg x3) (6 : Int32).toNatClampNeg x6) (5 : Int32).toNatClampNeg x9) (4 : Int32).toNatClampNeg x12) (3 : Int32).toNatClampNeg x15) (2 : Int32).toNatClampNeg x18)) 5 (upd (upd (upd (upd (upd (upd (upd (F 5) (7 : Int32).toNatClampNeg x3) (6 : Int32).toNatClampNeg x6) (5 : Int32).toNatClampNeg x9) (4 : Int32).toNatClampNeg x12) (3 : Int32).toNatClampNeg x15) (2 : Int32).toNatClampNeg x18) (1 : Int32).toNatClampNeg x21)) 5 (upd (upd (upd (upd (upd (upd (upd (upd (F 5) (7 : Int32).toNatClampNeg x3) (6 : Int32).toNatClampNeg x6) (5 : Int32).toNatClampNeg x9) (4 : Int32).toNatClampNeg x12) (3 : Int32).toNatClampNeg x15) (2 : Int32).toNatClampNeg x18) (1 : Int32).toNatClampNeg x21) (0 : Int32).toNatClampNeg p_ev))) := hD
                  refine lv_aload_n hx hb dX7_note_34 rfl (lv_at hl 1 rfl) ?_
                  refine lv_aload_n hx hb dX7_note_35 rfl (lv_at hl 1 rfl) ?_
                  refine va_get (D := D) (ci := 7) (v := .int ((g 39))) (C := RX7) (T := TX7) (N := 41) hx hb hts hi7 hown hK hP 0 rfl rfl 39 (by decide) (hts (.fieldLink RX7 99 "GuardedCallsModel" "many" "I") (by decide +kernel)) (fun _ h9 => h9) rfl dX7_note_36 ?_
                  refine lv_bipush (v := 8) hx hb dX7_note_39 (by decide) ?_
                  refine lv_icmp_ge (tgt := 53) hx hb dX7_note_41 (by decide) (fun c23 => ?_) (fun c23 => ?_)
                  · refine lv_bipush (v := 8) hx hb dX7_note_53 (by decide) ?_
                    refine va_put (D := D) (ci := 7) (v := .int 8) (ty := .int) (C := RX7) (T := TX7) (N := 41) hx hb hts hi7 tyX7 tyX7_ok nmX7 hown hK hP hD hS 0 rfl rfl 39 (by decide) (hts (.fieldLink RX7 99 "GuardedCallsModel" "many" "I") (by decide +kernel)) (fun _ h9 => h9) rfl (by decide +kernel) rfl rfl (Nat.le_of_ble_eq_true rfl) dX7_note_55 (fun H locs hP hD hS => ?_)
                    have hP : va_P D vwCl (mw cI a (upd g 39 8) d (vf_upd (vf_upd (vf_upd (vf_upd (vf_upd (vf_upd (vf_upd (vf_upd F 5 (upd (F 5) (7 : Int32).toNatClampNeg x3)) 5 (upd (upd (F 5) (7 : Int32).toNatClampNeg x3) (6 : Int32).toNatClampNeg x6)) 5 (upd (upd (upd (F 5) (7 : Int32).toNatClampNeg x3) (6 : Int32).toNatClampNeg x6) (5 : Int32).toNatClampNeg x9)) 5 (upd (upd (upd (upd (F 5) (7 : Int32).toNatClampNeg x3) (6 : Int32).toNatClampNeg x6) (5 : Int32).toNatClampNeg x9) (4 : Int32).toNatClampNeg x12)) 5 (upd (upd (upd (upd (upd (F 5) (7 : Int32).toNatClampNeg x3) (6 : Int32).toNatClampNeg x6) (5 : Int32).toNatClampNeg x9) (4 : Int32).toNatClampNeg x12) (3 : Int32).toNatClampNeg x15)) 5 (upd (upd (upd (upd (upd (upd (F 5) (7 : Int32).toNatClampNeg x3) (6 : Int32).toNatClampNeg x6) (5 : Int32).toNatClampNeg x9) (4 : Int32).toNatClampNeg x12) (3 : Int32).toNatClampNeg x15) (2 : Int32).toNatClampNeg x18)) 5 (upd (upd (upd (upd (upd (upd (upd (F 5) (7 : Int32).toNatClampNeg x3) (6 : Int32).toNatClampNeg x6) (5 : Int32).toNatClampNeg x9) (4 : Int32).toNatClampNeg x12) (3 : Int32).toNatClampNeg x15) (2 : Int32).toNatClampNeg x18) (1 : Int32).toNatClampNeg x21)) 5 (upd (upd (upd (upd (upd (upd (upd (upd (F 5) (7 : Int32).toNatClampNeg x3) (6 : Int32).toNatClampNeg x6) (5 : Int32).toNatClampNeg x9) (4 : Int32).toNatClampNeg x12) (3 : Int32).toNatClampNeg x15) (2 : Int32).toNatClampNeg x18) (1 : Int32).toNatClampNeg x21) (0 : Int32).toNatClampNeg p_ev))) H := hP
                    have hD : va_D A (mw cI a (upd g 39 8) d (vf_upd (vf_upd (vf_upd (vf_upd (vf_upd (vf_upd (vf_upd (vf_upd F 5 (upd (F 5) (7 : Int32).toNatClampNeg x3)) 5 (upd (upd (F 5) (7 : Int32).toNatClampNeg x3) (6 : Int32).toNatClampNeg x6)) 5 (upd (upd (upd (F 5) (7 : Int32).toNatClampNeg x3) (6 : Int32).toNatClampNeg x6) (5 : Int32).toNatClampNeg x9)) 5 (upd (upd (upd (upd (F 5) (7 : Int32).toNatClampNeg x3) (6 : Int32).toNatClampNeg x6) (5 : Int32).toNatClampNeg x9) (4 : Int32).toNatClampNeg x12)) 5 (upd (upd (upd (upd (upd (F 5) (7 : Int32).toNatClampNeg x3) (6 : Int32).toNatClampNeg x6) (5 : Int32).toNatClampNeg x9) (4 : Int32).toNatClampNeg x12) (3 : Int32).toNatClampNeg x15)) 5 (upd (upd (upd (upd (upd (upd (F 5) (7 : Int32).toNatClampNeg x3) (6 : Int32).toNatClampNeg x6) (5 : Int32).toNatClampNeg x9) (4 : Int32).toNatClampNeg x12) (3 : Int32).toNatClampNeg x15) (2 : Int32).toNatClampNeg x18)) 5 (upd (upd (upd (upd (upd (upd (upd (F 5) (7 : Int32).toNatClampNeg x3) (6 : Int32).toNatClampNeg x6) (5 : Int32).toNatClampNeg x9) (4 : Int32).toNatClampNeg x12) (3 : Int32).toNatClampNeg x15) (2 : Int32).toNatClampNeg x18) (1 : Int32).toNatClampNeg x21)) 5 (upd (upd (upd (upd (upd (upd (upd (upd (F 5) (7 : Int32).toNatClampNeg x3) (6 : Int32).toNatClampNeg x6) (5 : Int32).toNatClampNeg x9) (4 : Int32).toNatClampNeg x12) (3 : Int32).toNatClampNeg x15) (2 : Int32).toNatClampNeg x18) (1 : Int32).toNatClampNeg x21) (0 : Int32).toNatClampNeg p_ev))) := hD
                    have hI24 : MI (upd g 39 8) d (vf_upd (vf_upd (vf_upd (vf_upd (vf_upd (vf_upd (vf_upd (vf_upd F 5 (upd (F 5) (7 : Int32).toNatClampNeg x3)) 5 (upd (upd (F 5) (7 : Int32).toNatClampNeg x3) (6 : Int32).toNatClampNeg x6)) 5 (upd (upd (upd (F 5) (7 : Int32).toNatClampNeg x3) (6 : Int32).toNatClampNeg x6) (5 : Int32).toNatClampNeg x9)) 5 (upd (upd (upd (upd (F 5) (7 : Int32).toNatClampNeg x3) (6 : Int32).toNatClampNeg x6) (5 : Int32).toNatClampNeg x9) (4 : Int32).toNatClampNeg x12)) 5 (upd (upd (upd (upd (upd (F 5) (7 : Int32).toNatClampNeg x3) (6 : Int32).toNatClampNeg x6) (5 : Int32).toNatClampNeg x9) (4 : Int32).toNatClampNeg x12) (3 : Int32).toNatClampNeg x15)) 5 (upd (upd (upd (upd (upd (upd (F 5) (7 : Int32).toNatClampNeg x3) (6 : Int32).toNatClampNeg x6) (5 : Int32).toNatClampNeg x9) (4 : Int32).toNatClampNeg x12) (3 : Int32).toNatClampNeg x15) (2 : Int32).toNatClampNeg x18)) 5 (upd (upd (upd (upd (upd (upd (upd (F 5) (7 : Int32).toNatClampNeg x3) (6 : Int32).toNatClampNeg x6) (5 : Int32).toNatClampNeg x9) (4 : Int32).toNatClampNeg x12) (3 : Int32).toNatClampNeg x15) (2 : Int32).toNatClampNeg x18) (1 : Int32).toNatClampNeg x21)) 5 (upd (upd (upd (upd (upd (upd (upd (upd (F 5) (7 : Int32).toNatClampNeg x3) (6 : Int32).toNatClampNeg x6) (5 : Int32).toNatClampNeg x9) (4 : Int32).toNatClampNeg x12) (3 : Int32).toNatClampNeg x15) (2 : Int32).toNatClampNeg x18) (1 : Int32).toNatClampNeg x21) (0 : Int32).toNatClampNeg p_ev)) := ⟨by show 0 ≤ (8 : Int32).toInt ∧ (8 : Int32).toInt ≤ 8; decide, hI.2.1, hI.2.2.1, hI.2.2.2.1, hI.2.2.2.2.1, hI.2.2.2.2.2.1, hI.2.2.2.2.2.2.1, hI.2.2.2.2.2.2.2.1, hI.2.2.2.2.2.2.2.2⟩
                    exact W.vret hx hb hr (fun t ht hW => ⟨⟨(upd g 39 8, d, vf_upd (vf_upd (vf_upd (vf_upd (vf_upd (vf_upd (vf_upd (vf_upd F 5 (upd (F 5) (7 : Int32).toNatClampNeg x3)) 5 (upd (upd (F 5) (7 : Int32).toNatClampNeg x3) (6 : Int32).toNatClampNeg x6)) 5 (upd (upd (upd (F 5) (7 : Int32).toNatClampNeg x3) (6 : Int32).toNatClampNeg x6) (5 : Int32).toNatClampNeg x9)) 5 (upd (upd (upd (upd (F 5) (7 : Int32).toNatClampNeg x3) (6 : Int32).toNatClampNeg x6) (5 : Int32).toNatClampNeg x9) (4 : Int32).toNatClampNeg x12)) 5 (upd (upd (upd (upd (upd (F 5) (7 : Int32).toNatClampNeg x3) (6 : Int32).toNatClampNeg x6) (5 : Int32).toNatClampNeg x9) (4 : Int32).toNatClampNeg x12) (3 : Int32).toNatClampNeg x15)) 5 (upd (upd (upd (upd (upd (upd (F 5) (7 : Int32).toNatClampNeg x3) (6 : Int32).toNatClampNeg x6) (5 : Int32).toNatClampNeg x9) (4 : Int32).toNatClampNeg x12) (3 : Int32).toNatClampNeg x15) (2 : Int32).toNatClampNeg x18)) 5 (upd (upd (upd (upd (upd (upd (upd (F 5) (7 : Int32).toNatClampNeg x3) (6 : Int32).toNatClampNeg x6) (5 : Int32).toNatClampNeg x9) (4 : Int32).toNatClampNeg x12) (3 : Int32).toNatClampNeg x15) (2 : Int32).toNatClampNeg x18) (1 : Int32).toNatClampNeg x21)) 5 (upd (upd (upd (upd (upd (upd (upd (upd (F 5) (7 : Int32).toNatClampNeg x3) (6 : Int32).toNatClampNeg x6) (5 : Int32).toNatClampNeg x9) (4 : Int32).toNatClampNeg x12) (3 : Int32).toNatClampNeg x15) (2 : Int32).toNatClampNeg x18) (1 : Int32).toNatClampNeg x21) (0 : Int32).toNatClampNeg p_ev)), rfl, ⟨trivial, hI24, rfl, rfl, rfl, rfl, rfl, rfl, rfl, rfl⟩, by rw [ht]; exact hP, hD⟩, hS.F ht⟩) hS.2.2 dX7_note_58
                  · refine lv_aload_n hx hb dX7_note_44 rfl (lv_at hl 1 rfl) ?_
                    refine va_get (D := D) (ci := 7) (v := .int ((g 39))) (C := RX7) (T := TX7) (N := 41) hx hb hts hi7 hown hK hP 0 rfl rfl 39 (by decide) (hts (.fieldLink RX7 99 "GuardedCallsModel" "many" "I") (by decide +kernel)) (fun _ h9 => h9) rfl dX7_note_45 ?_
                    refine lv_iconst (v := 1) hx hb dX7_note_48 (by decide) ?_
                    refine lv_iadd hx hb dX7_note_49 ?_
                    refine lv_topi (fun x25 e25 => ?_)
                    refine lv_goto (tgt := 55) hx hb dX7_note_50 (by decide) ?_
                    refine va_put (D := D) (ci := 7) (v := .int x25) (ty := .int) (C := RX7) (T := TX7) (N := 41) hx hb hts hi7 tyX7 tyX7_ok nmX7 hown hK hP hD hS 0 rfl rfl 39 (by decide) (hts (.fieldLink RX7 99 "GuardedCallsModel" "many" "I") (by decide +kernel)) (fun _ h9 => h9) rfl (by decide +kernel) rfl rfl (Nat.le_of_ble_eq_true rfl) dX7_note_55 (fun H locs hP hD hS => ?_)
                    have hP : va_P D vwCl (mw cI a (upd g 39 x25) d (vf_upd (vf_upd (vf_upd (vf_upd (vf_upd (vf_upd (vf_upd (vf_upd F 5 (upd (F 5) (7 : Int32).toNatClampNeg x3)) 5 (upd (upd (F 5) (7 : Int32).toNatClampNeg x3) (6 : Int32).toNatClampNeg x6)) 5 (upd (upd (upd (F 5) (7 : Int32).toNatClampNeg x3) (6 : Int32).toNatClampNeg x6) (5 : Int32).toNatClampNeg x9)) 5 (upd (upd (upd (upd (F 5) (7 : Int32).toNatClampNeg x3) (6 : Int32).toNatClampNeg x6) (5 : Int32).toNatClampNeg x9) (4 : Int32).toNatClampNeg x12)) 5 (upd (upd (upd (upd (upd (F 5) (7 : Int32).toNatClampNeg x3) (6 : Int32).toNatClampNeg x6) (5 : Int32).toNatClampNeg x9) (4 : Int32).toNatClampNeg x12) (3 : Int32).toNatClampNeg x15)) 5 (upd (upd (upd (upd (upd (upd (F 5) (7 : Int32).toNatClampNeg x3) (6 : Int32).toNatClampNeg x6) (5 : Int32).toNatClampNeg x9) (4 : Int32).toNatClampNeg x12) (3 : Int32).toNatClampNeg x15) (2 : Int32).toNatClampNeg x18)) 5 (upd (upd (upd (upd (upd (upd (upd (F 5) (7 : Int32).toNatClampNeg x3) (6 : Int32).toNatClampNeg x6) (5 : Int32).toNatClampNeg x9) (4 : Int32).toNatClampNeg x12) (3 : Int32).toNatClampNeg x15) (2 : Int32).toNatClampNeg x18) (1 : Int32).toNatClampNeg x21)) 5 (upd (upd (upd (upd (upd (upd (upd (upd (F 5) (7 : Int32).toNatClampNeg x3) (6 : Int32).toNatClampNeg x6) (5 : Int32).toNatClampNeg x9) (4 : Int32).toNatClampNeg x12) (3 : Int32).toNatClampNeg x15) (2 : Int32).toNatClampNeg x18) (1 : Int32).toNatClampNeg x21) (0 : Int32).toNatClampNeg p_ev))) H := hP
                    have hD : va_D A (mw cI a (upd g 39 x25) d (vf_upd (vf_upd (vf_upd (vf_upd (vf_upd (vf_upd (vf_upd (vf_upd F 5 (upd (F 5) (7 : Int32).toNatClampNeg x3)) 5 (upd (upd (F 5) (7 : Int32).toNatClampNeg x3) (6 : Int32).toNatClampNeg x6)) 5 (upd (upd (upd (F 5) (7 : Int32).toNatClampNeg x3) (6 : Int32).toNatClampNeg x6) (5 : Int32).toNatClampNeg x9)) 5 (upd (upd (upd (upd (F 5) (7 : Int32).toNatClampNeg x3) (6 : Int32).toNatClampNeg x6) (5 : Int32).toNatClampNeg x9) (4 : Int32).toNatClampNeg x12)) 5 (upd (upd (upd (upd (upd (F 5) (7 : Int32).toNatClampNeg x3) (6 : Int32).toNatClampNeg x6) (5 : Int32).toNatClampNeg x9) (4 : Int32).toNatClampNeg x12) (3 : Int32).toNatClampNeg x15)) 5 (upd (upd (upd (upd (upd (upd (F 5) (7 : Int32).toNatClampNeg x3) (6 : Int32).toNatClampNeg x6) (5 : Int32).toNatClampNeg x9) (4 : Int32).toNatClampNeg x12) (3 : Int32).toNatClampNeg x15) (2 : Int32).toNatClampNeg x18)) 5 (upd (upd (upd (upd (upd (upd (upd (F 5) (7 : Int32).toNatClampNeg x3) (6 : Int32).toNatClampNeg x6) (5 : Int32).toNatClampNeg x9) (4 : Int32).toNatClampNeg x12) (3 : Int32).toNatClampNeg x15) (2 : Int32).toNatClampNeg x18) (1 : Int32).toNatClampNeg x21)) 5 (upd (upd (upd (upd (upd (upd (upd (upd (F 5) (7 : Int32).toNatClampNeg x3) (6 : Int32).toNatClampNeg x6) (5 : Int32).toNatClampNeg x9) (4 : Int32).toNatClampNeg x12) (3 : Int32).toNatClampNeg x15) (2 : Int32).toNatClampNeg x18) (1 : Int32).toNatClampNeg x21) (0 : Int32).toNatClampNeg p_ev))) := hD
                    have hI26 : MI (upd g 39 x25) d (vf_upd (vf_upd (vf_upd (vf_upd (vf_upd (vf_upd (vf_upd (vf_upd F 5 (upd (F 5) (7 : Int32).toNatClampNeg x3)) 5 (upd (upd (F 5) (7 : Int32).toNatClampNeg x3) (6 : Int32).toNatClampNeg x6)) 5 (upd (upd (upd (F 5) (7 : Int32).toNatClampNeg x3) (6 : Int32).toNatClampNeg x6) (5 : Int32).toNatClampNeg x9)) 5 (upd (upd (upd (upd (F 5) (7 : Int32).toNatClampNeg x3) (6 : Int32).toNatClampNeg x6) (5 : Int32).toNatClampNeg x9) (4 : Int32).toNatClampNeg x12)) 5 (upd (upd (upd (upd (upd (F 5) (7 : Int32).toNatClampNeg x3) (6 : Int32).toNatClampNeg x6) (5 : Int32).toNatClampNeg x9) (4 : Int32).toNatClampNeg x12) (3 : Int32).toNatClampNeg x15)) 5 (upd (upd (upd (upd (upd (upd (F 5) (7 : Int32).toNatClampNeg x3) (6 : Int32).toNatClampNeg x6) (5 : Int32).toNatClampNeg x9) (4 : Int32).toNatClampNeg x12) (3 : Int32).toNatClampNeg x15) (2 : Int32).toNatClampNeg x18)) 5 (upd (upd (upd (upd (upd (upd (upd (F 5) (7 : Int32).toNatClampNeg x3) (6 : Int32).toNatClampNeg x6) (5 : Int32).toNatClampNeg x9) (4 : Int32).toNatClampNeg x12) (3 : Int32).toNatClampNeg x15) (2 : Int32).toNatClampNeg x18) (1 : Int32).toNatClampNeg x21)) 5 (upd (upd (upd (upd (upd (upd (upd (upd (F 5) (7 : Int32).toNatClampNeg x3) (6 : Int32).toNatClampNeg x6) (5 : Int32).toNatClampNeg x9) (4 : Int32).toNatClampNeg x12) (3 : Int32).toNatClampNeg x15) (2 : Int32).toNatClampNeg x18) (1 : Int32).toNatClampNeg x21) (0 : Int32).toNatClampNeg p_ev)) := ⟨by show 0 ≤ (x25).toInt ∧ (x25).toInt ≤ 8; rw [e25]; exact kept_up hI.1 c23, hI.2.1, hI.2.2.1, hI.2.2.2.1, hI.2.2.2.2.1, hI.2.2.2.2.2.1, hI.2.2.2.2.2.2.1, hI.2.2.2.2.2.2.2.1, hI.2.2.2.2.2.2.2.2⟩
                    exact W.vret hx hb hr (fun t ht hW => ⟨⟨(upd g 39 x25, d, vf_upd (vf_upd (vf_upd (vf_upd (vf_upd (vf_upd (vf_upd (vf_upd F 5 (upd (F 5) (7 : Int32).toNatClampNeg x3)) 5 (upd (upd (F 5) (7 : Int32).toNatClampNeg x3) (6 : Int32).toNatClampNeg x6)) 5 (upd (upd (upd (F 5) (7 : Int32).toNatClampNeg x3) (6 : Int32).toNatClampNeg x6) (5 : Int32).toNatClampNeg x9)) 5 (upd (upd (upd (upd (F 5) (7 : Int32).toNatClampNeg x3) (6 : Int32).toNatClampNeg x6) (5 : Int32).toNatClampNeg x9) (4 : Int32).toNatClampNeg x12)) 5 (upd (upd (upd (upd (upd (F 5) (7 : Int32).toNatClampNeg x3) (6 : Int32).toNatClampNeg x6) (5 : Int32).toNatClampNeg x9) (4 : Int32).toNatClampNeg x12) (3 : Int32).toNatClampNeg x15)) 5 (upd (upd (upd (upd (upd (upd (F 5) (7 : Int32).toNatClampNeg x3) (6 : Int32).toNatClampNeg x6) (5 : Int32).toNatClampNeg x9) (4 : Int32).toNatClampNeg x12) (3 : Int32).toNatClampNeg x15) (2 : Int32).toNatClampNeg x18)) 5 (upd (upd (upd (upd (upd (upd (upd (F 5) (7 : Int32).toNatClampNeg x3) (6 : Int32).toNatClampNeg x6) (5 : Int32).toNatClampNeg x9) (4 : Int32).toNatClampNeg x12) (3 : Int32).toNatClampNeg x15) (2 : Int32).toNatClampNeg x18) (1 : Int32).toNatClampNeg x21)) 5 (upd (upd (upd (upd (upd (upd (upd (upd (F 5) (7 : Int32).toNatClampNeg x3) (6 : Int32).toNatClampNeg x6) (5 : Int32).toNatClampNeg x9) (4 : Int32).toNatClampNeg x12) (3 : Int32).toNatClampNeg x15) (2 : Int32).toNatClampNeg x18) (1 : Int32).toNatClampNeg x21) (0 : Int32).toNatClampNeg p_ev)), rfl, ⟨trivial, hI26, rfl, rfl, rfl, rfl, rfl, rfl, rfl, rfl⟩, by rw [ht]; exact hP, hD⟩, hS.F ht⟩) hS.2.2 dX7_note_58
                · exact absurd c22 (by decide)
set_option maxHeartbeats 4000000 in
set_option maxRecDepth 100000 in
theorem s_X7_lapse (l : Launch) (D : va_G) (cI : ClassId) (a : Nat → Nat) (sz : Nat) (g : Nat → Int32) (d : Nat → UInt64) (F : Nat → Nat → Int32) (p_t : Int32) (hI : MI g d F) : Met l yX7_lapse wsX7_lapse ({ frames := 1, cells := 0, slots := 0, locals := 22 }) (gP (KM D cI) D (mw cI a g d F) sz [.ref (a 0), .int p_t]) (va_Qi (fun (r : Int32) (u : SS) => (r = 0 ∨ r = 1) ∧ MP g F u) (gB D (wfM cI a) (va_A (mw cI a g d F) sz)) (va_A (mw cI a g d F) sz)) 0 0 (va_A (mw cI a g d F) sz) := by
  refine Met.ofW (cc := cX7_lapse) (maxL := 3) (ret := (some .boolean)) (by decide) rfl ?_
  intro p e s m args below meth c s₁ B hml hv
  obtain ⟨rfl, hsz, hP, hD0, hKK⟩ := hv
  have hx := B.exec
  have hb := B.bytes
  have hr := B.returns
  have hts := atoms_spec (ws := wsX7_lapse) B.pre
  have hown : s.vm.findClass RX7 = some m.cls := findClass_of_methodNamed B.named
  have hlocks := B.notSynchronized
  subst hsz
  have hK := hKK.1
  have hok := KM_ok D cI
  have hD := hD0.self (sz := s.heap.size)
  generalize hAe : va_A (mw cI a g d F) s.heap.size = A at hD ⊢
  have hi7 : ∀ w ∈ wsX70, w ∈ wsX7_lapse := fun w h => List.mem_cons_of_mem _ (List.mem_append_right _ h)
  have hA : ∀ q : Nat, s.heap.size ≤ q → A q := fun q h => by rw [← hAe]; exact Or.inr h
  have hS : va_S A s.heap s.heap [] := va_S.rf
  have hP : va_P D vwCl (mw cI a g d F) s.heap := hP
  have hl := lv_entry ([.ref ((a 0)), .int p_t]) (n := 3) (Nat.le_of_ble_eq_true rfl)
  rw [lg_entry_eq]
  generalize (lg_sl ([.ref ((a 0)), .int p_t]) ++ List.replicate (3 - (lg_sl ([.ref ((a 0)), .int p_t])).length) Slot.unset).toArray = ls at hl ⊢
  have hl : lv_has ls 3 [(0, .ref ((a 0))), (1, .int p_t)] := hl
  refine lv_iload_n hx hb dX7_lapse_0 rfl (lv_at hl 1 rfl) ?_
  refine lv_aload_n hx hb dX7_lapse_1 rfl (lv_at hl 0 rfl) ?_
  refine va_get (D := D) (ci := 7) (v := .int ((g 2))) (C := RX7) (T := TX7) (N := 41) hx hb hts hi7 hown hK hP 0 rfl rfl 2 (by decide) (hts (.fieldLink RX7 93 "GuardedCallsModel" "deadline" "I") (by decide +kernel)) (fun _ h9 => h9) rfl dX7_lapse_2 ?_
  refine lv_aload_n hx hb dX7_lapse_5 rfl (lv_at hl 0 rfl) ?_
  refine va_get (D := D) (ci := 7) (v := .int ((g 1))) (C := RX7) (T := TX7) (N := 41) hx hb hts hi7 hown hK hP 0 rfl rfl 1 (by decide) (hts (.fieldLink RX7 102 "GuardedCallsModel" "clock" "I") (by decide +kernel)) (fun _ h9 => h9) rfl dX7_lapse_6 ?_
  refine lv_isub hx hb dX7_lapse_9 ?_
  refine lv_topi (fun x1 e1 => ?_)
  refine lv_icmp_gt (tgt := 17) hx hb dX7_lapse_10 (by decide) (fun c2 => ?_) (fun c2 => ?_)
  · refine lv_iconst (v := 0) hx hb dX7_lapse_17 (by decide) ?_
    refine lv_istore_n (lv' := [(2, .int 0), (0, .ref ((a 0))), (1, .int p_t)]) hx hb dX7_lapse_18 rfl hl (by decide) rfl (fun ls hl => ?_)
    refine lv_aload_n hx hb dX7_lapse_19 rfl (lv_at hl 1 rfl) ?_
    refine lv_iload_n hx hb dX7_lapse_20 rfl (lv_at hl 0 rfl) ?_
    refine lv_if_eq (tgt := 33) hx hb dX7_lapse_21 (by decide) (fun c3 => ?_) (fun c3 => ?_)
    · refine lv_aload_n hx hb dX7_lapse_33 rfl (lv_at hl 1 rfl) ?_
      refine va_get (D := D) (ci := 7) (v := .int ((g 2))) (C := RX7) (T := TX7) (N := 41) hx hb hts hi7 hown hK hP 0 rfl rfl 2 (by decide) (hts (.fieldLink RX7 93 "GuardedCallsModel" "deadline" "I") (by decide +kernel)) (fun _ h9 => h9) rfl dX7_lapse_34 ?_
      refine va_put (D := D) (ci := 7) (v := .int ((g 2))) (ty := .int) (C := RX7) (T := TX7) (N := 41) hx hb hts hi7 tyX7 tyX7_ok nmX7 hown hK hP hD hS 0 rfl rfl 1 (by decide) (hts (.fieldLink RX7 102 "GuardedCallsModel" "clock" "I") (by decide +kernel)) (fun _ h9 => h9) rfl (by decide +kernel) rfl rfl (Nat.le_of_ble_eq_true rfl) dX7_lapse_37 (fun H locs hP hD hS => ?_)
      have hP : va_P D vwCl (mw cI a (upd g 1 ((g 2))) d F) H := hP
      have hD : va_D A (mw cI a (upd g 1 ((g 2))) d F) := hD
      refine lv_iload_n hx hb dX7_lapse_40 rfl (lv_at hl 0 rfl) ?_
      refine lv_if_ne (tgt := 50) hx hb dX7_lapse_41 (by decide) (fun c4 => ?_) (fun c4 => ?_)
      · exact absurd c4 (by decide)
      · refine lv_aload_n hx hb dX7_lapse_44 rfl (lv_at hl 1 rfl) ?_
        refine lv_bipush (v := 41) hx hb dX7_lapse_45 (by decide) ?_
        refine gc_vv (As := [.int 41]) (rest := []) (w0 := mw cI a (upd g 1 ((g 2))) d F) (wc := mw cI a (upd g 1 ((g 2))) d F) (wr := []) (wf := wfM cI a) ⟨hx, hb, hml, hown, hts⟩ hKK hok hP hD hS hA [0, 1, 2, 3, 4, 5, 6] [] rfl rfl (by decide) (s_X7_note l D cI a _ (upd g 1 ((g 2))) d F 41 hI) (cwV 1 hts gX7_lapse_X7_note rfl rfl rfl (by decide +kernel) ⟨Nat.le_of_ble_eq_true rfl, Nat.le_of_ble_eq_true rfl⟩) (va_recv hK hP (ci := 7) (q0 := 0) rfl rfl) rfl hl.1 rfl (Nat.le_of_ble_eq_true rfl) dX7_lapse_47 ⟨Nat.le_of_ble_eq_true rfl, Nat.le_of_ble_eq_true rfl⟩ (fun u5 H locs hw5 hP hD hS => ?_)
        obtain ⟨g5, d5, F5⟩ := u5
        have hP : va_P D vwCl (mw cI a g5 d5 F5) H := hP
        have hD : va_D A (mw cI a g5 d5 F5) := hD
        refine lv_iload_n hx hb dX7_lapse_50 rfl (lv_at hl 0 rfl) ?_
        exact W.zret (v := 0) hx hb hr (rfl) (fun t ht hW => ⟨⟨_, (g5, d5, F5), rfl, ⟨Or.inl rfl, hw5.2.1, hw5.2.2.1, hw5.2.2.2.1, hw5.2.2.2.2.1, hw5.2.2.2.2.2.1, hw5.2.2.2.2.2.2.1, hw5.2.2.2.2.2.2.2.1, hw5.2.2.2.2.2.2.2.2.1, hw5.2.2.2.2.2.2.2.2.2⟩, by rw [ht]; exact hP, hD⟩, hS.F ht⟩) hS.2.2 dX7_lapse_51
    · exact absurd c3 (by decide)
  · refine lv_iconst (v := 1) hx hb dX7_lapse_13 (by decide) ?_
    refine lv_goto (tgt := 18) hx hb dX7_lapse_14 (by decide) ?_
    refine lv_istore_n (lv' := [(2, .int 1), (0, .ref ((a 0))), (1, .int p_t)]) hx hb dX7_lapse_18 rfl hl (by decide) rfl (fun ls hl => ?_)
    refine lv_aload_n hx hb dX7_lapse_19 rfl (lv_at hl 1 rfl) ?_
    refine lv_iload_n hx hb dX7_lapse_20 rfl (lv_at hl 0 rfl) ?_
    refine lv_if_eq (tgt := 33) hx hb dX7_lapse_21 (by decide) (fun c6 => ?_) (fun c6 => ?_)
    · exact absurd c6 (by decide)
    · refine lv_aload_n hx hb dX7_lapse_24 rfl (lv_at hl 1 rfl) ?_
      refine va_get (D := D) (ci := 7) (v := .int ((g 1))) (C := RX7) (T := TX7) (N := 41) hx hb hts hi7 hown hK hP 0 rfl rfl 1 (by decide) (hts (.fieldLink RX7 102 "GuardedCallsModel" "clock" "I") (by decide +kernel)) (fun _ h9 => h9) rfl dX7_lapse_25 ?_
      refine lv_iload_n hx hb dX7_lapse_28 rfl (lv_at hl 2 rfl) ?_
      refine lv_iadd hx hb dX7_lapse_29 ?_
      refine lv_topi (fun x7 e7 => ?_)
      refine lv_goto (tgt := 37) hx hb dX7_lapse_30 (by decide) ?_
      refine va_put (D := D) (ci := 7) (v := .int x7) (ty := .int) (C := RX7) (T := TX7) (N := 41) hx hb hts hi7 tyX7 tyX7_ok nmX7 hown hK hP hD hS 0 rfl rfl 1 (by decide) (hts (.fieldLink RX7 102 "GuardedCallsModel" "clock" "I") (by decide +kernel)) (fun _ h9 => h9) rfl (by decide +kernel) rfl rfl (Nat.le_of_ble_eq_true rfl) dX7_lapse_37 (fun H locs hP hD hS => ?_)
      have hP : va_P D vwCl (mw cI a (upd g 1 x7) d F) H := hP
      have hD : va_D A (mw cI a (upd g 1 x7) d F) := hD
      refine lv_iload_n hx hb dX7_lapse_40 rfl (lv_at hl 0 rfl) ?_
      refine lv_if_ne (tgt := 50) hx hb dX7_lapse_41 (by decide) (fun c8 => ?_) (fun c8 => ?_)
      · refine lv_iload_n hx hb dX7_lapse_50 rfl (lv_at hl 0 rfl) ?_
        exact W.zret (v := 1) hx hb hr (rfl) (fun t ht hW => ⟨⟨_, (upd g 1 x7, d, F), rfl, ⟨Or.inr rfl, hI, rfl, rfl, rfl, rfl, rfl, rfl, rfl, rfl⟩, by rw [ht]; exact hP, hD⟩, hS.F ht⟩) hS.2.2 dX7_lapse_51
      · exact absurd c8 (by decide)
set_option maxHeartbeats 4000000 in
set_option maxRecDepth 100000 in
theorem s_X7_become (l : Launch) (D : va_G) (cI : ClassId) (a : Nat → Nat) (sz : Nat) (g : Nat → Int32) (d : Nat → UInt64) (F : Nat → Nat → Int32) (p_st : Int32) : Met l yX7_become wsX7_become ({ frames := 0, cells := 0, slots := 0, locals := 0 }) (gP (KM D cI) D (mw cI a g d F) sz [.ref (a 0), .int p_st]) (va_Qv (fun (u : SS) => u = (upd (upd (upd g 18 p_st) 21 0) 20 0, d, F)) (gB D (wfM cI a) (va_A (mw cI a g d F) sz)) (va_A (mw cI a g d F) sz)) 0 0 (va_A (mw cI a g d F) sz) := by
  refine Met.ofW (cc := cX7_become) (maxL := 2) (ret := none) (by decide) rfl ?_
  intro p e s m args below meth c s₁ B hml hv
  obtain ⟨rfl, hsz, hP, hD0, hKK⟩ := hv
  have hx := B.exec
  have hb := B.bytes
  have hr := B.returns
  have hts := atoms_spec (ws := wsX7_become) B.pre
  have hown : s.vm.findClass RX7 = some m.cls := findClass_of_methodNamed B.named
  have hlocks := B.notSynchronized
  subst hsz
  have hK := hKK.1
  have hok := KM_ok D cI
  have hD := hD0.self (sz := s.heap.size)
  generalize hAe : va_A (mw cI a g d F) s.heap.size = A at hD ⊢
  have hi7 : ∀ w ∈ wsX70, w ∈ wsX7_become := fun w h => List.mem_cons_of_mem _ (List.mem_append_right _ h)
  have hA : ∀ q : Nat, s.heap.size ≤ q → A q := fun q h => by rw [← hAe]; exact Or.inr h
  have hS : va_S A s.heap s.heap [] := va_S.rf
  have hP : va_P D vwCl (mw cI a g d F) s.heap := hP
  have hl := lv_entry ([.ref ((a 0)), .int p_st]) (n := 2) (Nat.le_of_ble_eq_true rfl)
  rw [lg_entry_eq]
  generalize (lg_sl ([.ref ((a 0)), .int p_st]) ++ List.replicate (2 - (lg_sl ([.ref ((a 0)), .int p_st])).length) Slot.unset).toArray = ls at hl ⊢
  have hl : lv_has ls 2 [(0, .ref ((a 0))), (1, .int p_st)] := hl
  refine lv_aload_n hx hb dX7_become_0 rfl (lv_at hl 0 rfl) ?_
  refine lv_iload_n hx hb dX7_become_1 rfl (lv_at hl 1 rfl) ?_
  refine va_put (D := D) (ci := 7) (v := .int p_st) (ty := .int) (C := RX7) (T := TX7) (N := 41) hx hb hts hi7 tyX7 tyX7_ok nmX7 hown hK hP hD hS 0 rfl rfl 18 (by decide) (hts (.fieldLink RX7 109 "GuardedCallsModel" "state" "I") (by decide +kernel)) (fun _ h9 => h9) rfl (by decide +kernel) rfl rfl (Nat.le_of_ble_eq_true rfl) dX7_become_2 (fun H locs hP hD hS => ?_)
  have hP : va_P D vwCl (mw cI a (upd g 18 p_st) d F) H := hP
  have hD : va_D A (mw cI a (upd g 18 p_st) d F) := hD
  refine lv_aload_n hx hb dX7_become_5 rfl (lv_at hl 0 rfl) ?_
  refine lv_iconst (v := 0) hx hb dX7_become_6 (by decide) ?_
  refine va_put (D := D) (ci := 7) (v := .int 0) (ty := .int) (C := RX7) (T := TX7) (N := 41) hx hb hts hi7 tyX7 tyX7_ok nmX7 hown hK hP hD hS 0 rfl rfl 21 (by decide) (hts (.fieldLink RX7 112 "GuardedCallsModel" "count" "I") (by decide +kernel)) (fun _ h9 => h9) rfl (by decide +kernel) rfl rfl (Nat.le_of_ble_eq_true rfl) dX7_become_7 (fun H locs hP hD hS => ?_)
  have hP : va_P D vwCl (mw cI a (upd (upd g 18 p_st) 21 0) d F) H := hP
  have hD : va_D A (mw cI a (upd (upd g 18 p_st) 21 0) d F) := hD
  refine lv_aload_n hx hb dX7_become_10 rfl (lv_at hl 0 rfl) ?_
  refine lv_iconst (v := 0) hx hb dX7_become_11 (by decide) ?_
  refine va_put (D := D) (ci := 7) (v := .int 0) (ty := .int) (C := RX7) (T := TX7) (N := 41) hx hb hts hi7 tyX7 tyX7_ok nmX7 hown hK hP hD hS 0 rfl rfl 20 (by decide) (hts (.fieldLink RX7 115 "GuardedCallsModel" "trials" "I") (by decide +kernel)) (fun _ h9 => h9) rfl (by decide +kernel) rfl rfl (Nat.le_of_ble_eq_true rfl) dX7_become_12 (fun H locs hP hD hS => ?_)
  have hP : va_P D vwCl (mw cI a (upd (upd (upd g 18 p_st) 21 0) 20 0) d F) H := hP
  have hD : va_D A (mw cI a (upd (upd (upd g 18 p_st) 21 0) 20 0) d F) := hD
  exact W.vret hx hb hr (fun t ht hW => ⟨⟨(upd (upd (upd g 18 p_st) 21 0) 20 0, d, F), rfl, rfl, by rw [ht]; exact hP, hD⟩, hS.F ht⟩) hS.2.2 dX7_become_15
set_option maxHeartbeats 4000000 in
set_option maxRecDepth 100000 in
theorem s_X7_marked (l : Launch) (D : va_G) (cI : ClassId) (a : Nat → Nat) (sz : Nat) (g : Nat → Int32) (d : Nat → UInt64) (F : Nat → Nat → Int32) (p_b : Int32) (h21 : 0 ≤ (g 21).toInt ∧ (g 21).toInt ≤ 8) : Met l yX7_marked wsX7_marked ({ frames := 0, cells := 0, slots := 0, locals := 0 }) (gP (KM D cI) D (mw cI a g d F) sz [.ref (a 0), .int p_b]) (va_Qi (fun (r : Int32) (u : SS) => u = (g, d, F)) (gB D (wfM cI a) (va_A (mw cI a g d F) sz)) (va_A (mw cI a g d F) sz)) 0 0 (va_A (mw cI a g d F) sz) := by
  refine Met.ofW (cc := cX7_marked) (maxL := 4) (ret := (some .int)) (by decide) rfl ?_
  intro p e s m args below meth c s₁ B hml hv
  obtain ⟨rfl, hsz, hP, hD0, hKK⟩ := hv
  have hx := B.exec
  have hb := B.bytes
  have hr := B.returns
  have hts := atoms_spec (ws := wsX7_marked) B.pre
  have hown : s.vm.findClass RX7 = some m.cls := findClass_of_methodNamed B.named
  have hlocks := B.notSynchronized
  subst hsz
  have hK := hKK.1
  have hok := KM_ok D cI
  have hD := hD0.self (sz := s.heap.size)
  generalize hAe : va_A (mw cI a g d F) s.heap.size = A at hD ⊢
  have hi7 : ∀ w ∈ wsX70, w ∈ wsX7_marked := fun w h => List.mem_cons_of_mem _ (List.mem_append_right _ h)
  have hA : ∀ q : Nat, s.heap.size ≤ q → A q := fun q h => by rw [← hAe]; exact Or.inr h
  have hS : va_S A s.heap s.heap [] := va_S.rf
  have hP : va_P D vwCl (mw cI a g d F) s.heap := hP
  have hl := lv_entry ([.ref ((a 0)), .int p_b]) (n := 4) (Nat.le_of_ble_eq_true rfl)
  rw [lg_entry_eq]
  generalize (lg_sl ([.ref ((a 0)), .int p_b]) ++ List.replicate (4 - (lg_sl ([.ref ((a 0)), .int p_b])).length) Slot.unset).toArray = ls at hl ⊢
  have hl : lv_has ls 4 [(0, .ref ((a 0))), (1, .int p_b)] := hl
  refine lv_iconst (v := 0) hx hb dX7_marked_0 (by decide) ?_
  refine lv_istore_n (lv' := [(2, .int 0), (0, .ref ((a 0))), (1, .int p_b)]) hx hb dX7_marked_1 rfl hl (by decide) rfl (fun ls hl => ?_)
  refine lv_iconst (v := 0) hx hb dX7_marked_2 (by decide) ?_
  refine lv_istore_n (lv' := [(3, .int 0), (2, .int 0), (0, .ref ((a 0))), (1, .int p_b)]) hx hb dX7_marked_3 rfl hl (by decide) rfl (fun ls hl => ?_)
  refine gl_loop (σ := Int32 × Int32) (μ := fun q => match q with | (y1_2, y1_3) => (9 - (y1_3).toInt).toNat) (Inv := fun q H locs ls => match q with | (y1_2, y1_3) => 0 ≤ (y1_3).toInt ∧ va_P D vwCl (mw cI a g d F) H ∧ va_D A (mw cI a g d F) ∧ va_S A s.heap H locs ∧ lv_has ls 4 [(3, .int y1_3), (2, .int y1_2), (0, .ref ((a 0))), (1, .int p_b)]) (fun q H locs ls hv ih1 => ?_) (0, 0) _ _ _ ⟨by decide, hP, hD, hS, lv_sub hl [0, 1, 2, 3] rfl⟩
  obtain ⟨y1_2, y1_3⟩ := q
  obtain ⟨hq1_0, hP, hD, hS, hl⟩ := hv
  refine lv_iload_n hx hb dX7_marked_4 rfl (lv_at hl 0 rfl) ?_
  refine lv_aload_n hx hb dX7_marked_5 rfl (lv_at hl 2 rfl) ?_
  refine va_get (D := D) (ci := 7) (v := .int ((g 21))) (C := RX7) (T := TX7) (N := 41) hx hb hts hi7 hown hK hP 0 rfl rfl 21 (by decide) (hts (.fieldLink RX7 112 "GuardedCallsModel" "count" "I") (by decide +kernel)) (fun _ h9 => h9) rfl dX7_marked_6 ?_
  refine lv_icmp_ge (tgt := 37) hx hb dX7_marked_9 (by decide) (fun c2 => ?_) (fun c2 => ?_)
  · refine lv_iload_n hx hb dX7_marked_37 rfl (lv_at hl 1 rfl) ?_
    exact W.iret (v := y1_2) hx hb hr (fun t ht hW => ⟨⟨_, (g, d, F), rfl, rfl, by rw [ht]; exact hP, hD⟩, hS.F ht⟩) hS.2.2 dX7_marked_38
  · refine lv_aload_n hx hb dX7_marked_12 rfl (lv_at hl 2 rfl) ?_
    refine va_get (D := D) (ci := 7) (v := .ref ((a 5))) (C := RX7) (T := TX7) (N := 41) hx hb hts hi7 hown hK hP 0 rfl rfl 22 (by decide) (hts (.fieldLink RX7 49 "GuardedCallsModel" "window" "[I") (by decide +kernel)) (fun _ h9 => h9) rfl dX7_marked_13 ?_
    refine lv_iload_n hx hb dX7_marked_16 rfl (lv_at hl 0 rfl) ?_
    refine va_iald (D := D) hx hb hK hP 5 0 (f := (F 4)) (n := 8) rfl rfl (in8_lt hq1_0 c2 h21.2) dX7_marked_17 ?_
    refine lv_topi (fun x3 e3 => ?_)
    refine lv_iload_n hx hb dX7_marked_18 rfl (lv_at hl 3 rfl) ?_
    refine lv_iand hx hb dX7_marked_19 ?_
    refine lv_topi (fun x4 e4 => ?_)
    refine lv_if_eq (tgt := 29) hx hb dX7_marked_20 (by decide) (fun c5 => ?_) (fun c5 => ?_)
    · refine lv_iload_n hx hb dX7_marked_29 rfl (lv_at hl 1 rfl) ?_
      refine lv_istore_n (lv' := [(2, .int y1_2), (3, .int y1_3), (0, .ref ((a 0))), (1, .int p_b)]) hx hb dX7_marked_30 rfl hl (by decide) rfl (fun ls hl => ?_)
      obtain ⟨x6, e6⟩ : ∃ y : Int32, y = y1_3 + 1 := ⟨_, rfl⟩
      refine lv_iinc (v := x6) (lv' := [(3, .int x6), (2, .int y1_2), (0, .ref ((a 0))), (1, .int p_b)]) hx hb dX7_marked_31 hl (k := 1) rfl (by rw [e6]; rfl) (by decide) rfl (fun ls hl => ?_)
      refine lv_goto (tgt := 4) hx hb dX7_marked_34 (by decide) ?_
      exact ih1 (y1_2, x6) _ _ _ (by have h1 := i_inc c2; have h2 := i_lt c2; show (9 - (x6).toInt).toNat < (9 - (y1_3).toInt).toNat; rw [e6, h1]; omega) ⟨by rw [e6, i_inc c2]; omega, hP, hD, hS, lv_sub hl [0, 1, 2, 3] rfl⟩
    · refine lv_iload_n hx hb dX7_marked_23 rfl (lv_at hl 1 rfl) ?_
      refine lv_iconst (v := 1) hx hb dX7_marked_24 (by decide) ?_
      refine lv_iadd hx hb dX7_marked_25 ?_
      refine lv_topi (fun x7 e7 => ?_)
      refine lv_goto (tgt := 30) hx hb dX7_marked_26 (by decide) ?_
      refine lv_istore_n (lv' := [(2, .int x7), (3, .int y1_3), (0, .ref ((a 0))), (1, .int p_b)]) hx hb dX7_marked_30 rfl hl (by decide) rfl (fun ls hl => ?_)
      obtain ⟨x8, e8⟩ : ∃ y : Int32, y = y1_3 + 1 := ⟨_, rfl⟩
      refine lv_iinc (v := x8) (lv' := [(3, .int x8), (2, .int x7), (0, .ref ((a 0))), (1, .int p_b)]) hx hb dX7_marked_31 hl (k := 1) rfl (by rw [e8]; rfl) (by decide) rfl (fun ls hl => ?_)
      refine lv_goto (tgt := 4) hx hb dX7_marked_34 (by decide) ?_
      exact ih1 (x7, x8) _ _ _ (by have h1 := i_inc c2; have h2 := i_lt c2; show (9 - (x8).toInt).toNat < (9 - (y1_3).toInt).toNat; rw [e8, h1]; omega) ⟨by rw [e8, i_inc c2]; omega, hP, hD, hS, lv_sub hl [0, 1, 2, 3] rfl⟩
set_option maxHeartbeats 4000000 in
set_option maxRecDepth 100000 in
theorem s_X7_rate (l : Launch) (D : va_G) (cI : ClassId) (a : Nat → Nat) (sz : Nat) (g : Nat → Int32) (d : Nat → UInt64) (F : Nat → Nat → Int32) (p_b : Int32) (h21 : 0 ≤ (g 21).toInt ∧ (g 21).toInt ≤ 8) : Met l yX7_rate wsX7_rate ({ frames := 1, cells := 0, slots := 0, locals := 23 }) (gP (KM D cI) D (mw cI a g d F) sz [.ref (a 0), .int p_b]) (va_Qd (fun (r : UInt64) (u : SS) => u = (g, d, F)) (gB D (wfM cI a) (va_A (mw cI a g d F) sz)) (va_A (mw cI a g d F) sz)) 0 0 (va_A (mw cI a g d F) sz) := by
  refine Met.ofW (cc := cX7_rate) (maxL := 2) (ret := (some .double)) (by decide) rfl ?_
  intro p e s m args below meth c s₁ B hml hv
  obtain ⟨rfl, hsz, hP, hD0, hKK⟩ := hv
  have hx := B.exec
  have hb := B.bytes
  have hr := B.returns
  have hts := atoms_spec (ws := wsX7_rate) B.pre
  have hown : s.vm.findClass RX7 = some m.cls := findClass_of_methodNamed B.named
  have hlocks := B.notSynchronized
  subst hsz
  have hK := hKK.1
  have hok := KM_ok D cI
  have hD := hD0.self (sz := s.heap.size)
  generalize hAe : va_A (mw cI a g d F) s.heap.size = A at hD ⊢
  have hi7 : ∀ w ∈ wsX70, w ∈ wsX7_rate := fun w h => List.mem_cons_of_mem _ (List.mem_append_right _ h)
  have hA : ∀ q : Nat, s.heap.size ≤ q → A q := fun q h => by rw [← hAe]; exact Or.inr h
  have hS : va_S A s.heap s.heap [] := va_S.rf
  have hP : va_P D vwCl (mw cI a g d F) s.heap := hP
  have hl := lv_entry ([.ref ((a 0)), .int p_b]) (n := 2) (Nat.le_of_ble_eq_true rfl)
  rw [lg_entry_eq]
  generalize (lg_sl ([.ref ((a 0)), .int p_b]) ++ List.replicate (2 - (lg_sl ([.ref ((a 0)), .int p_b])).length) Slot.unset).toArray = ls at hl ⊢
  have hl : lv_has ls 2 [(0, .ref ((a 0))), (1, .int p_b)] := hl
  refine lv_aload_n hx hb dX7_rate_0 rfl (lv_at hl 0 rfl) ?_
  refine va_get (D := D) (ci := 7) (v := .int ((g 21))) (C := RX7) (T := TX7) (N := 41) hx hb hts hi7 hown hK hP 0 rfl rfl 21 (by decide) (hts (.fieldLink RX7 112 "GuardedCallsModel" "count" "I") (by decide +kernel)) (fun _ h9 => h9) rfl dX7_rate_1 ?_
  refine lv_if_ne (tgt := 13) hx hb dX7_rate_4 (by decide) (fun c1 => ?_) (fun c1 => ?_)
  · refine lv_ldc2d (v := 4636737291354636288) hx hb hown (hts (.constantDouble RX7 44 (4636737291354636288)) (by decide +kernel)) dX7_rate_13 ?_
    refine lv_aload_n hx hb dX7_rate_16 rfl (lv_at hl 0 rfl) ?_
    refine lv_iload_n hx hb dX7_rate_17 rfl (lv_at hl 1 rfl) ?_
    refine gc_vi (As := [.int p_b]) (rest := [.double 4636737291354636288]) (w0 := mw cI a g d F) (wc := mw cI a g d F) (wr := []) (wf := wfM cI a) ⟨hx, hb, hml, hown, hts⟩ hKK hok hP hD hS hA [0, 1, 2, 3, 4, 5, 6] [] rfl rfl (by decide) (s_X7_marked l D cI a _ g d F p_b h21) (cwV 1 hts gX7_rate_X7_marked rfl rfl rfl (by decide +kernel) ⟨Nat.le_of_ble_eq_true rfl, Nat.le_of_ble_eq_true rfl⟩) (va_recv hK hP (ci := 7) (q0 := 0) rfl rfl) rfl hl.1 rfl (Nat.le_of_ble_eq_true rfl) dX7_rate_18 ⟨Nat.le_of_ble_eq_true rfl, Nat.le_of_ble_eq_true rfl⟩ (fun r2 u2 H locs hw2 hP hD hS => ?_)
    subst hw2
    have hP : va_P D vwCl (mw cI a g d F) H := hP
    have hD : va_D A (mw cI a g d F) := hD
    refine lv_i2d hx hb dX7_rate_21 ?_
    refine lv_topd (fun x3 e3 => ?_)
    refine lv_dmul hx hb dX7_rate_22 (n64_of (by rw [e3]; exact N1_rate _)) ?_
    refine lv_topd (fun x4 e4 => ?_)
    refine lv_aload_n hx hb dX7_rate_23 rfl (lv_at hl 0 rfl) ?_
    refine va_get (D := D) (ci := 7) (v := .int ((g 21))) (C := RX7) (T := TX7) (N := 41) hx hb hts hi7 hown hK hP 0 rfl rfl 21 (by decide) (hts (.fieldLink RX7 112 "GuardedCallsModel" "count" "I") (by decide +kernel)) (fun _ h9 => h9) rfl dX7_rate_24 ?_
    refine lv_i2d hx hb dX7_rate_27 ?_
    refine lv_topd (fun x5 e5 => ?_)
    refine lv_ddiv hx hb dX7_rate_28 (n64_of (by rw [e5, e4, e3]; exact N1_div (N1_rate _) (c1))) ?_
    refine lv_topd (fun x6 e6 => ?_)
    exact W.dret (v := x6) hx hb hr (fun t ht hW => ⟨⟨_, (g, d, F), rfl, rfl, by rw [ht]; exact hP, hD⟩, hS.F ht⟩) hS.2.2 dX7_rate_29
  · refine lv_ldc2d (v := 13830554455654793216) hx hb hown (hts (.constantDouble RX7 118 (13830554455654793216)) (by decide +kernel)) dX7_rate_7 ?_
    refine lv_goto (tgt := 29) hx hb dX7_rate_10 (by decide) ?_
    exact W.dret (v := 13830554455654793216) hx hb hr (fun t ht hW => ⟨⟨_, (g, d, F), rfl, rfl, by rw [ht]; exact hP, hD⟩, hS.F ht⟩) hS.2.2 dX7_rate_29
set_option maxHeartbeats 4000000 in
set_option maxRecDepth 100000 in
theorem s_X7_renew (l : Launch) (D : va_G) (cI : ClassId) (a : Nat → Nat) (sz : Nat) (g : Nat → Int32) (d : Nat → UInt64) (F : Nat → Nat → Int32) (hI : MI g d F) : Met l yX7_renew wsX7_renew ({ frames := 0, cells := 0, slots := 0, locals := 0 }) (gP (KM D cI) D (mw cI a g d F) sz [.ref (a 0)]) (va_Qv (fun (u : SS) => (True) ∧ MP g F u) (gB D (wfM cI a) (va_A (mw cI a g d F) sz)) (va_A (mw cI a g d F) sz)) 0 0 (va_A (mw cI a g d F) sz) := by
  refine Met.ofW (cc := cX7_renew) (maxL := 1) (ret := none) (by decide) rfl ?_
  intro p e s m args below meth c s₁ B hml hv
  obtain ⟨rfl, hsz, hP, hD0, hKK⟩ := hv
  have hx := B.exec
  have hb := B.bytes
  have hr := B.returns
  have hts := atoms_spec (ws := wsX7_renew) B.pre
  have hown : s.vm.findClass RX7 = some m.cls := findClass_of_methodNamed B.named
  have hlocks := B.notSynchronized
  subst hsz
  have hK := hKK.1
  have hok := KM_ok D cI
  have hD := hD0.self (sz := s.heap.size)
  generalize hAe : va_A (mw cI a g d F) s.heap.size = A at hD ⊢
  have hi7 : ∀ w ∈ wsX70, w ∈ wsX7_renew := fun w h => List.mem_cons_of_mem _ (List.mem_append_right _ h)
  have hA : ∀ q : Nat, s.heap.size ≤ q → A q := fun q h => by rw [← hAe]; exact Or.inr h
  have hS : va_S A s.heap s.heap [] := va_S.rf
  have hP : va_P D vwCl (mw cI a g d F) s.heap := hP
  have hl := lv_entry ([.ref ((a 0))]) (n := 1) (Nat.le_of_ble_eq_true rfl)
  rw [lg_entry_eq]
  generalize (lg_sl ([.ref ((a 0))]) ++ List.replicate (1 - (lg_sl ([.ref ((a 0))])).length) Slot.unset).toArray = ls at hl ⊢
  have hl : lv_has ls 1 [(0, .ref ((a 0)))] := hl
  refine lv_aload_n hx hb dX7_renew_0 rfl (lv_at hl 0 rfl) ?_
  refine lv_aload_n hx hb dX7_renew_1 rfl (lv_at hl 0 rfl) ?_
  refine va_get (D := D) (ci := 7) (v := .int ((g 1))) (C := RX7) (T := TX7) (N := 41) hx hb hts hi7 hown hK hP 0 rfl rfl 1 (by decide) (hts (.fieldLink RX7 102 "GuardedCallsModel" "clock" "I") (by decide +kernel)) (fun _ h9 => h9) rfl dX7_renew_2 ?_
  refine lv_aload_n hx hb dX7_renew_5 rfl (lv_at hl 0 rfl) ?_
  refine va_get (D := D) (ci := 7) (v := .int ((g 27))) (C := RX7) (T := TX7) (N := 41) hx hb hts hi7 hown hK hP 0 rfl rfl 27 (by decide) (hts (.fieldLink RX7 55 "GuardedCallsModel" "period" "I") (by decide +kernel)) (fun _ h9 => h9) rfl dX7_renew_6 ?_
  refine lv_idiv hx hb dX7_renew_9 (hI.2.2.2.2.1) ?_
  refine lv_topi (fun x1 e1 => ?_)
  refine va_put (D := D) (ci := 7) (v := .int x1) (ty := .int) (C := RX7) (T := TX7) (N := 41) hx hb hts hi7 tyX7 tyX7_ok nmX7 hown hK hP hD hS 0 rfl rfl 30 (by decide) (hts (.fieldLink RX7 141 "GuardedCallsModel" "cycle" "I") (by decide +kernel)) (fun _ h9 => h9) rfl (by decide +kernel) rfl rfl (Nat.le_of_ble_eq_true rfl) dX7_renew_10 (fun H locs hP hD hS => ?_)
  have hP : va_P D vwCl (mw cI a (upd g 30 x1) d F) H := hP
  have hD : va_D A (mw cI a (upd g 30 x1) d F) := hD
  refine lv_aload_n hx hb dX7_renew_13 rfl (lv_at hl 0 rfl) ?_
  refine lv_aload_n hx hb dX7_renew_14 rfl (lv_at hl 0 rfl) ?_
  refine va_get (D := D) (ci := 7) (v := .int ((g 28))) (C := RX7) (T := TX7) (N := 41) hx hb hts hi7 hown hK hP 0 rfl rfl 28 (by decide) (hts (.fieldLink RX7 58 "GuardedCallsModel" "limit" "I") (by decide +kernel)) (fun _ h9 => h9) rfl dX7_renew_15 ?_
  refine va_put (D := D) (ci := 7) (v := .int ((g 28))) (ty := .int) (C := RX7) (T := TX7) (N := 41) hx hb hts hi7 tyX7 tyX7_ok nmX7 hown hK hP hD hS 0 rfl rfl 31 (by decide) (hts (.fieldLink RX7 64 "GuardedCallsModel" "left" "I") (by decide +kernel)) (fun _ h9 => h9) rfl (by decide +kernel) rfl rfl (Nat.le_of_ble_eq_true rfl) dX7_renew_18 (fun H locs hP hD hS => ?_)
  have hP : va_P D vwCl (mw cI a (upd (upd g 30 x1) 31 ((g 28))) d F) H := hP
  have hD : va_D A (mw cI a (upd (upd g 30 x1) 31 ((g 28))) d F) := hD
  exact W.vret hx hb hr (fun t ht hW => ⟨⟨(upd (upd g 30 x1) 31 ((g 28)), d, F), rfl, ⟨trivial, hI, rfl, rfl, rfl, rfl, rfl, rfl, rfl, rfl⟩, by rw [ht]; exact hP, hD⟩, hS.F ht⟩) hS.2.2 dX7_renew_21
set_option maxHeartbeats 4000000 in
set_option maxRecDepth 100000 in
theorem s_X7_limits (l : Launch) (D : va_G) (cI : ClassId) (a : Nat → Nat) (sz : Nat) (g : Nat → Int32) (d : Nat → UInt64) (F : Nat → Nat → Int32) (hI : MI g d F) : Met l yX7_limits wsX7_limits ({ frames := 2, cells := 0, slots := 0, locals := 44 }) (gP (KM D cI) D (mw cI a g d F) sz [.ref (a 0)]) (va_Qi (fun (r : Int32) (u : SS) => (0 ≤ r.toInt) ∧ MP g F u) (gB D (wfM cI a) (va_A (mw cI a g d F) sz)) (va_A (mw cI a g d F) sz)) 0 0 (va_A (mw cI a g d F) sz) := by
  refine Met.ofW (cc := cX7_limits) (maxL := 2) (ret := (some .int)) (by decide) rfl ?_
  intro p e s m args below meth c s₁ B hml hv
  obtain ⟨rfl, hsz, hP, hD0, hKK⟩ := hv
  have hx := B.exec
  have hb := B.bytes
  have hr := B.returns
  have hts := atoms_spec (ws := wsX7_limits) B.pre
  have hown : s.vm.findClass RX7 = some m.cls := findClass_of_methodNamed B.named
  have hlocks := B.notSynchronized
  subst hsz
  have hK := hKK.1
  have hok := KM_ok D cI
  have hD := hD0.self (sz := s.heap.size)
  generalize hAe : va_A (mw cI a g d F) s.heap.size = A at hD ⊢
  have hi7 : ∀ w ∈ wsX70, w ∈ wsX7_limits := fun w h => List.mem_cons_of_mem _ (List.mem_append_right _ h)
  have hA : ∀ q : Nat, s.heap.size ≤ q → A q := fun q h => by rw [← hAe]; exact Or.inr h
  have hS : va_S A s.heap s.heap [] := va_S.rf
  have hP : va_P D vwCl (mw cI a g d F) s.heap := hP
  have hl := lv_entry ([.ref ((a 0))]) (n := 2) (Nat.le_of_ble_eq_true rfl)
  rw [lg_entry_eq]
  generalize (lg_sl ([.ref ((a 0))]) ++ List.replicate (2 - (lg_sl ([.ref ((a 0))])).length) Slot.unset).toArray = ls at hl ⊢
  have hl : lv_has ls 2 [(0, .ref ((a 0)))] := hl
  refine lv_aload_n hx hb dX7_limits_0 rfl (lv_at hl 0 rfl) ?_
  refine va_get (D := D) (ci := 7) (v := .int ((g 1))) (C := RX7) (T := TX7) (N := 41) hx hb hts hi7 hown hK hP 0 rfl rfl 1 (by decide) (hts (.fieldLink RX7 102 "GuardedCallsModel" "clock" "I") (by decide +kernel)) (fun _ h9 => h9) rfl dX7_limits_1 ?_
  refine lv_aload_n hx hb dX7_limits_4 rfl (lv_at hl 0 rfl) ?_
  refine va_get (D := D) (ci := 7) (v := .int ((g 27))) (C := RX7) (T := TX7) (N := 41) hx hb hts hi7 hown hK hP 0 rfl rfl 27 (by decide) (hts (.fieldLink RX7 55 "GuardedCallsModel" "period" "I") (by decide +kernel)) (fun _ h9 => h9) rfl dX7_limits_5 ?_
  refine lv_idiv hx hb dX7_limits_8 (hI.2.2.2.2.1) ?_
  refine lv_topi (fun x1 e1 => ?_)
  refine lv_aload_n hx hb dX7_limits_9 rfl (lv_at hl 0 rfl) ?_
  refine va_get (D := D) (ci := 7) (v := .int ((g 30))) (C := RX7) (T := TX7) (N := 41) hx hb hts hi7 hown hK hP 0 rfl rfl 30 (by decide) (hts (.fieldLink RX7 141 "GuardedCallsModel" "cycle" "I") (by decide +kernel)) (fun _ h9 => h9) rfl dX7_limits_10 ?_
  refine lv_icmp_le (tgt := 20) hx hb dX7_limits_13 (by decide) (fun c2 => ?_) (fun c2 => ?_)
  · refine lv_aload_n hx hb dX7_limits_20 rfl (lv_at hl 0 rfl) ?_
    refine va_get (D := D) (ci := 7) (v := .int ((g 31))) (C := RX7) (T := TX7) (N := 41) hx hb hts hi7 hown hK hP 0 rfl rfl 31 (by decide) (hts (.fieldLink RX7 64 "GuardedCallsModel" "left" "I") (by decide +kernel)) (fun _ h9 => h9) rfl dX7_limits_21 ?_
    refine lv_if_ne (tgt := 80) hx hb dX7_limits_24 (by decide) (fun c3 => ?_) (fun c3 => ?_)
    · refine lv_aload_n hx hb dX7_limits_80 rfl (lv_at hl 0 rfl) ?_
      refine lv_aload_n hx hb dX7_limits_81 rfl (lv_at hl 0 rfl) ?_
      refine va_get (D := D) (ci := 7) (v := .int ((g 31))) (C := RX7) (T := TX7) (N := 41) hx hb hts hi7 hown hK hP 0 rfl rfl 31 (by decide) (hts (.fieldLink RX7 64 "GuardedCallsModel" "left" "I") (by decide +kernel)) (fun _ h9 => h9) rfl dX7_limits_82 ?_
      refine lv_iconst (v := 1) hx hb dX7_limits_85 (by decide) ?_
      refine lv_isub hx hb dX7_limits_86 ?_
      refine lv_topi (fun x4 e4 => ?_)
      refine va_put (D := D) (ci := 7) (v := .int x4) (ty := .int) (C := RX7) (T := TX7) (N := 41) hx hb hts hi7 tyX7 tyX7_ok nmX7 hown hK hP hD hS 0 rfl rfl 31 (by decide) (hts (.fieldLink RX7 64 "GuardedCallsModel" "left" "I") (by decide +kernel)) (fun _ h9 => h9) rfl (by decide +kernel) rfl rfl (Nat.le_of_ble_eq_true rfl) dX7_limits_87 (fun H locs hP hD hS => ?_)
      have hP : va_P D vwCl (mw cI a (upd g 31 x4) d F) H := hP
      have hD : va_D A (mw cI a (upd g 31 x4) d F) := hD
      refine lv_iconst (v := 0) hx hb dX7_limits_90 (by decide) ?_
      exact W.iret (v := 0) hx hb hr (fun t ht hW => ⟨⟨_, (upd g 31 x4, d, F), rfl, ⟨by decide, hI, rfl, rfl, rfl, rfl, rfl, rfl, rfl, rfl⟩, by rw [ht]; exact hP, hD⟩, hS.F ht⟩) hS.2.2 dX7_limits_91
    · refine lv_aload_n hx hb dX7_limits_27 rfl (lv_at hl 0 rfl) ?_
      refine va_get (D := D) (ci := 7) (v := .int ((g 30))) (C := RX7) (T := TX7) (N := 41) hx hb hts hi7 hown hK hP 0 rfl rfl 30 (by decide) (hts (.fieldLink RX7 141 "GuardedCallsModel" "cycle" "I") (by decide +kernel)) (fun _ h9 => h9) rfl dX7_limits_28 ?_
      refine lv_iconst (v := 1) hx hb dX7_limits_31 (by decide) ?_
      refine lv_iadd hx hb dX7_limits_32 ?_
      refine lv_topi (fun x5 e5 => ?_)
      refine lv_aload_n hx hb dX7_limits_33 rfl (lv_at hl 0 rfl) ?_
      refine va_get (D := D) (ci := 7) (v := .int ((g 27))) (C := RX7) (T := TX7) (N := 41) hx hb hts hi7 hown hK hP 0 rfl rfl 27 (by decide) (hts (.fieldLink RX7 55 "GuardedCallsModel" "period" "I") (by decide +kernel)) (fun _ h9 => h9) rfl dX7_limits_34 ?_
      refine lv_imul hx hb dX7_limits_37 ?_
      refine lv_topi (fun x6 e6 => ?_)
      refine lv_aload_n hx hb dX7_limits_38 rfl (lv_at hl 0 rfl) ?_
      refine va_get (D := D) (ci := 7) (v := .int ((g 1))) (C := RX7) (T := TX7) (N := 41) hx hb hts hi7 hown hK hP 0 rfl rfl 1 (by decide) (hts (.fieldLink RX7 102 "GuardedCallsModel" "clock" "I") (by decide +kernel)) (fun _ h9 => h9) rfl dX7_limits_39 ?_
      refine lv_isub hx hb dX7_limits_42 ?_
      refine lv_topi (fun x7 e7 => ?_)
      refine lv_istore_n (lv' := [(1, .int x7), (0, .ref ((a 0)))]) hx hb dX7_limits_43 rfl hl (by decide) rfl (fun ls hl => ?_)
      refine lv_iload_n hx hb dX7_limits_44 rfl (lv_at hl 0 rfl) ?_
      refine lv_aload_n hx hb dX7_limits_45 rfl (lv_at hl 1 rfl) ?_
      refine va_get (D := D) (ci := 7) (v := .int ((g 29))) (C := RX7) (T := TX7) (N := 41) hx hb hts hi7 hown hK hP 0 rfl rfl 29 (by decide) (hts (.fieldLink RX7 61 "GuardedCallsModel" "patience" "I") (by decide +kernel)) (fun _ h9 => h9) rfl dX7_limits_46 ?_
      refine lv_icmp_le (tgt := 60) hx hb dX7_limits_49 (by decide) (fun c8 => ?_) (fun c8 => ?_)
      · refine lv_aload_n hx hb dX7_limits_60 rfl (lv_at hl 1 rfl) ?_
        refine lv_bipush (v := 22) hx hb dX7_limits_61 (by decide) ?_
        refine gc_vv (As := [.int 22]) (rest := []) (w0 := mw cI a g d F) (wc := mw cI a g d F) (wr := []) (wf := wfM cI a) ⟨hx, hb, hml, hown, hts⟩ hKK hok hP hD hS hA [0, 1, 2, 3, 4, 5, 6] [] rfl rfl (by decide) (s_X7_note l D cI a _ g d F 22 hI) (cwV 1 hts gX7_limits_X7_note rfl rfl rfl (by decide +kernel) ⟨Nat.le_of_ble_eq_true rfl, Nat.le_of_ble_eq_true rfl⟩) (va_recv hK hP (ci := 7) (q0 := 0) rfl rfl) rfl hl.1 rfl (Nat.le_of_ble_eq_true rfl) dX7_limits_63 ⟨Nat.le_of_ble_eq_true rfl, Nat.le_of_ble_eq_true rfl⟩ (fun u9 H locs hw9 hP hD hS => ?_)
        obtain ⟨g9, d9, F9⟩ := u9
        have hP : va_P D vwCl (mw cI a g9 d9 F9) H := hP
        have hD : va_D A (mw cI a g9 d9 F9) := hD
        refine lv_aload_n hx hb dX7_limits_66 rfl (lv_at hl 1 rfl) ?_
        refine lv_iload_n hx hb dX7_limits_67 rfl (lv_at hl 0 rfl) ?_
        refine gc_vi (As := [.int x7]) (rest := []) (w0 := mw cI a g9 d9 F9) (wc := mw cI a g9 d9 F9) (wr := []) (wf := wfM cI a) ⟨hx, hb, hml, hown, hts⟩ hKK hok hP hD hS hA [0, 1, 2, 3, 4, 5, 6] [] rfl rfl (by decide) (s_X7_lapse l D cI a _ g9 d9 F9 x7 hw9.2.1) (cwV 1 hts gX7_limits_X7_lapse rfl rfl rfl (by decide +kernel) ⟨Nat.le_of_ble_eq_true rfl, Nat.le_of_ble_eq_true rfl⟩) (va_recv hK hP (ci := 7) (q0 := 0) rfl rfl) rfl hl.1 rfl (Nat.le_of_ble_eq_true rfl) dX7_limits_68 ⟨Nat.le_of_ble_eq_true rfl, Nat.le_of_ble_eq_true rfl⟩ (fun r10 u10 H locs hw10 hP hD hS => ?_)
        obtain ⟨g10, d10, F10⟩ := u10
        have hP : va_P D vwCl (mw cI a g10 d10 F10) H := hP
        have hD : va_D A (mw cI a g10 d10 F10) := hD
        refine lv_if_ne (tgt := 76) hx hb dX7_limits_71 (by decide) (fun c11 => ?_) (fun c11 => ?_)
        · refine lv_aload_n hx hb dX7_limits_76 rfl (lv_at hl 1 rfl) ?_
          refine gc_vv (As := []) (rest := []) (w0 := mw cI a g10 d10 F10) (wc := mw cI a g10 d10 F10) (wr := []) (wf := wfM cI a) ⟨hx, hb, hml, hown, hts⟩ hKK hok hP hD hS hA [0, 1, 2, 3, 4, 5, 6] [] rfl rfl (by decide) (s_X7_renew l D cI a _ g10 d10 F10 hw10.2.1) (cwV 0 hts gX7_limits_X7_renew rfl rfl rfl (by decide +kernel) ⟨Nat.le_of_ble_eq_true rfl, Nat.le_of_ble_eq_true rfl⟩) (va_recv hK hP (ci := 7) (q0 := 0) rfl rfl) rfl hl.1 rfl (Nat.le_of_ble_eq_true rfl) dX7_limits_77 ⟨Nat.le_of_ble_eq_true rfl, Nat.le_of_ble_eq_true rfl⟩ (fun u12 H locs hw12 hP hD hS => ?_)
          obtain ⟨g12, d12, F12⟩ := u12
          have hP : va_P D vwCl (mw cI a g12 d12 F12) H := hP
          have hD : va_D A (mw cI a g12 d12 F12) := hD
          refine lv_aload_n hx hb dX7_limits_80 rfl (lv_at hl 1 rfl) ?_
          refine lv_aload_n hx hb dX7_limits_81 rfl (lv_at hl 1 rfl) ?_
          refine va_get (D := D) (ci := 7) (v := .int ((g12 31))) (C := RX7) (T := TX7) (N := 41) hx hb hts hi7 hown hK hP 0 rfl rfl 31 (by decide) (hts (.fieldLink RX7 64 "GuardedCallsModel" "left" "I") (by decide +kernel)) (fun _ h9 => h9) rfl dX7_limits_82 ?_
          refine lv_iconst (v := 1) hx hb dX7_limits_85 (by decide) ?_
          refine lv_isub hx hb dX7_limits_86 ?_
          refine lv_topi (fun x13 e13 => ?_)
          refine va_put (D := D) (ci := 7) (v := .int x13) (ty := .int) (C := RX7) (T := TX7) (N := 41) hx hb hts hi7 tyX7 tyX7_ok nmX7 hown hK hP hD hS 0 rfl rfl 31 (by decide) (hts (.fieldLink RX7 64 "GuardedCallsModel" "left" "I") (by decide +kernel)) (fun _ h9 => h9) rfl (by decide +kernel) rfl rfl (Nat.le_of_ble_eq_true rfl) dX7_limits_87 (fun H locs hP hD hS => ?_)
          have hP : va_P D vwCl (mw cI a (upd g12 31 x13) d12 F12) H := hP
          have hD : va_D A (mw cI a (upd g12 31 x13) d12 F12) := hD
          refine lv_iconst (v := 0) hx hb dX7_limits_90 (by decide) ?_
          exact W.iret (v := 0) hx hb hr (fun t ht hW => ⟨⟨_, (upd g12 31 x13, d12, F12), rfl, ⟨by decide, hw12.2.1, (hw12.2.2.1.trans (hw10.2.2.1.trans hw9.2.2.1)), (hw12.2.2.2.1.trans (hw10.2.2.2.1.trans hw9.2.2.2.1)), (hw12.2.2.2.2.1.trans (hw10.2.2.2.2.1.trans hw9.2.2.2.2.1)), (hw12.2.2.2.2.2.1.trans (hw10.2.2.2.2.2.1.trans hw9.2.2.2.2.2.1)), (hw12.2.2.2.2.2.2.1.trans (hw10.2.2.2.2.2.2.1.trans hw9.2.2.2.2.2.2.1)), (hw12.2.2.2.2.2.2.2.1.trans (hw10.2.2.2.2.2.2.2.1.trans hw9.2.2.2.2.2.2.2.1)), (hw12.2.2.2.2.2.2.2.2.1.trans (hw10.2.2.2.2.2.2.2.2.1.trans hw9.2.2.2.2.2.2.2.2.1)), (hw12.2.2.2.2.2.2.2.2.2.trans (hw10.2.2.2.2.2.2.2.2.2.trans hw9.2.2.2.2.2.2.2.2.2))⟩, by rw [ht]; exact hP, hD⟩, hS.F ht⟩) hS.2.2 dX7_limits_91
        · refine lv_iconst (v := 4) hx hb dX7_limits_74 (by decide) ?_
          exact W.iret (v := 4) hx hb hr (fun t ht hW => ⟨⟨_, (g10, d10, F10), rfl, ⟨by decide, hw10.2.1, (hw10.2.2.1.trans hw9.2.2.1), (hw10.2.2.2.1.trans hw9.2.2.2.1), (hw10.2.2.2.2.1.trans hw9.2.2.2.2.1), (hw10.2.2.2.2.2.1.trans hw9.2.2.2.2.2.1), (hw10.2.2.2.2.2.2.1.trans hw9.2.2.2.2.2.2.1), (hw10.2.2.2.2.2.2.2.1.trans hw9.2.2.2.2.2.2.2.1), (hw10.2.2.2.2.2.2.2.2.1.trans hw9.2.2.2.2.2.2.2.2.1), (hw10.2.2.2.2.2.2.2.2.2.trans hw9.2.2.2.2.2.2.2.2.2)⟩, by rw [ht]; exact hP, hD⟩, hS.F ht⟩) hS.2.2 dX7_limits_75
      · refine lv_aload_n hx hb dX7_limits_52 rfl (lv_at hl 1 rfl) ?_
        refine lv_bipush (v := 21) hx hb dX7_limits_53 (by decide) ?_
        refine gc_vv (As := [.int 21]) (rest := []) (w0 := mw cI a g d F) (wc := mw cI a g d F) (wr := []) (wf := wfM cI a) ⟨hx, hb, hml, hown, hts⟩ hKK hok hP hD hS hA [0, 1, 2, 3, 4, 5, 6] [] rfl rfl (by decide) (s_X7_note l D cI a _ g d F 21 hI) (cwV 1 hts gX7_limits_X7_note rfl rfl rfl (by decide +kernel) ⟨Nat.le_of_ble_eq_true rfl, Nat.le_of_ble_eq_true rfl⟩) (va_recv hK hP (ci := 7) (q0 := 0) rfl rfl) rfl hl.1 rfl (Nat.le_of_ble_eq_true rfl) dX7_limits_55 ⟨Nat.le_of_ble_eq_true rfl, Nat.le_of_ble_eq_true rfl⟩ (fun u14 H locs hw14 hP hD hS => ?_)
        obtain ⟨g14, d14, F14⟩ := u14
        have hP : va_P D vwCl (mw cI a g14 d14 F14) H := hP
        have hD : va_D A (mw cI a g14 d14 F14) := hD
        refine lv_iconst (v := 3) hx hb dX7_limits_58 (by decide) ?_
        exact W.iret (v := 3) hx hb hr (fun t ht hW => ⟨⟨_, (g14, d14, F14), rfl, ⟨by decide, hw14.2.1, hw14.2.2.1, hw14.2.2.2.1, hw14.2.2.2.2.1, hw14.2.2.2.2.2.1, hw14.2.2.2.2.2.2.1, hw14.2.2.2.2.2.2.2.1, hw14.2.2.2.2.2.2.2.2.1, hw14.2.2.2.2.2.2.2.2.2⟩, by rw [ht]; exact hP, hD⟩, hS.F ht⟩) hS.2.2 dX7_limits_59
  · refine lv_aload_n hx hb dX7_limits_16 rfl (lv_at hl 0 rfl) ?_
    refine gc_vv (As := []) (rest := []) (w0 := mw cI a g d F) (wc := mw cI a g d F) (wr := []) (wf := wfM cI a) ⟨hx, hb, hml, hown, hts⟩ hKK hok hP hD hS hA [0, 1, 2, 3, 4, 5, 6] [] rfl rfl (by decide) (s_X7_renew l D cI a _ g d F hI) (cwV 0 hts gX7_limits_X7_renew rfl rfl rfl (by decide +kernel) ⟨Nat.le_of_ble_eq_true rfl, Nat.le_of_ble_eq_true rfl⟩) (va_recv hK hP (ci := 7) (q0 := 0) rfl rfl) rfl hl.1 rfl (Nat.le_of_ble_eq_true rfl) dX7_limits_17 ⟨Nat.le_of_ble_eq_true rfl, Nat.le_of_ble_eq_true rfl⟩ (fun u15 H locs hw15 hP hD hS => ?_)
    obtain ⟨g15, d15, F15⟩ := u15
    have hP : va_P D vwCl (mw cI a g15 d15 F15) H := hP
    have hD : va_D A (mw cI a g15 d15 F15) := hD
    refine lv_aload_n hx hb dX7_limits_20 rfl (lv_at hl 0 rfl) ?_
    refine va_get (D := D) (ci := 7) (v := .int ((g15 31))) (C := RX7) (T := TX7) (N := 41) hx hb hts hi7 hown hK hP 0 rfl rfl 31 (by decide) (hts (.fieldLink RX7 64 "GuardedCallsModel" "left" "I") (by decide +kernel)) (fun _ h9 => h9) rfl dX7_limits_21 ?_
    refine lv_if_ne (tgt := 80) hx hb dX7_limits_24 (by decide) (fun c16 => ?_) (fun c16 => ?_)
    · refine lv_aload_n hx hb dX7_limits_80 rfl (lv_at hl 0 rfl) ?_
      refine lv_aload_n hx hb dX7_limits_81 rfl (lv_at hl 0 rfl) ?_
      refine va_get (D := D) (ci := 7) (v := .int ((g15 31))) (C := RX7) (T := TX7) (N := 41) hx hb hts hi7 hown hK hP 0 rfl rfl 31 (by decide) (hts (.fieldLink RX7 64 "GuardedCallsModel" "left" "I") (by decide +kernel)) (fun _ h9 => h9) rfl dX7_limits_82 ?_
      refine lv_iconst (v := 1) hx hb dX7_limits_85 (by decide) ?_
      refine lv_isub hx hb dX7_limits_86 ?_
      refine lv_topi (fun x17 e17 => ?_)
      refine va_put (D := D) (ci := 7) (v := .int x17) (ty := .int) (C := RX7) (T := TX7) (N := 41) hx hb hts hi7 tyX7 tyX7_ok nmX7 hown hK hP hD hS 0 rfl rfl 31 (by decide) (hts (.fieldLink RX7 64 "GuardedCallsModel" "left" "I") (by decide +kernel)) (fun _ h9 => h9) rfl (by decide +kernel) rfl rfl (Nat.le_of_ble_eq_true rfl) dX7_limits_87 (fun H locs hP hD hS => ?_)
      have hP : va_P D vwCl (mw cI a (upd g15 31 x17) d15 F15) H := hP
      have hD : va_D A (mw cI a (upd g15 31 x17) d15 F15) := hD
      refine lv_iconst (v := 0) hx hb dX7_limits_90 (by decide) ?_
      exact W.iret (v := 0) hx hb hr (fun t ht hW => ⟨⟨_, (upd g15 31 x17, d15, F15), rfl, ⟨by decide, hw15.2.1, hw15.2.2.1, hw15.2.2.2.1, hw15.2.2.2.2.1, hw15.2.2.2.2.2.1, hw15.2.2.2.2.2.2.1, hw15.2.2.2.2.2.2.2.1, hw15.2.2.2.2.2.2.2.2.1, hw15.2.2.2.2.2.2.2.2.2⟩, by rw [ht]; exact hP, hD⟩, hS.F ht⟩) hS.2.2 dX7_limits_91
    · refine lv_aload_n hx hb dX7_limits_27 rfl (lv_at hl 0 rfl) ?_
      refine va_get (D := D) (ci := 7) (v := .int ((g15 30))) (C := RX7) (T := TX7) (N := 41) hx hb hts hi7 hown hK hP 0 rfl rfl 30 (by decide) (hts (.fieldLink RX7 141 "GuardedCallsModel" "cycle" "I") (by decide +kernel)) (fun _ h9 => h9) rfl dX7_limits_28 ?_
      refine lv_iconst (v := 1) hx hb dX7_limits_31 (by decide) ?_
      refine lv_iadd hx hb dX7_limits_32 ?_
      refine lv_topi (fun x18 e18 => ?_)
      refine lv_aload_n hx hb dX7_limits_33 rfl (lv_at hl 0 rfl) ?_
      refine va_get (D := D) (ci := 7) (v := .int ((g15 27))) (C := RX7) (T := TX7) (N := 41) hx hb hts hi7 hown hK hP 0 rfl rfl 27 (by decide) (hts (.fieldLink RX7 55 "GuardedCallsModel" "period" "I") (by decide +kernel)) (fun _ h9 => h9) rfl dX7_limits_34 ?_
      refine lv_imul hx hb dX7_limits_37 ?_
      refine lv_topi (fun x19 e19 => ?_)
      refine lv_aload_n hx hb dX7_limits_38 rfl (lv_at hl 0 rfl) ?_
      refine va_get (D := D) (ci := 7) (v := .int ((g15 1))) (C := RX7) (T := TX7) (N := 41) hx hb hts hi7 hown hK hP 0 rfl rfl 1 (by decide) (hts (.fieldLink RX7 102 "GuardedCallsModel" "clock" "I") (by decide +kernel)) (fun _ h9 => h9) rfl dX7_limits_39 ?_
      refine lv_isub hx hb dX7_limits_42 ?_
      refine lv_topi (fun x20 e20 => ?_)
      refine lv_istore_n (lv' := [(1, .int x20), (0, .ref ((a 0)))]) hx hb dX7_limits_43 rfl hl (by decide) rfl (fun ls hl => ?_)
      refine lv_iload_n hx hb dX7_limits_44 rfl (lv_at hl 0 rfl) ?_
      refine lv_aload_n hx hb dX7_limits_45 rfl (lv_at hl 1 rfl) ?_
      refine va_get (D := D) (ci := 7) (v := .int ((g15 29))) (C := RX7) (T := TX7) (N := 41) hx hb hts hi7 hown hK hP 0 rfl rfl 29 (by decide) (hts (.fieldLink RX7 61 "GuardedCallsModel" "patience" "I") (by decide +kernel)) (fun _ h9 => h9) rfl dX7_limits_46 ?_
      refine lv_icmp_le (tgt := 60) hx hb dX7_limits_49 (by decide) (fun c21 => ?_) (fun c21 => ?_)
      · refine lv_aload_n hx hb dX7_limits_60 rfl (lv_at hl 1 rfl) ?_
        refine lv_bipush (v := 22) hx hb dX7_limits_61 (by decide) ?_
        refine gc_vv (As := [.int 22]) (rest := []) (w0 := mw cI a g15 d15 F15) (wc := mw cI a g15 d15 F15) (wr := []) (wf := wfM cI a) ⟨hx, hb, hml, hown, hts⟩ hKK hok hP hD hS hA [0, 1, 2, 3, 4, 5, 6] [] rfl rfl (by decide) (s_X7_note l D cI a _ g15 d15 F15 22 hw15.2.1) (cwV 1 hts gX7_limits_X7_note rfl rfl rfl (by decide +kernel) ⟨Nat.le_of_ble_eq_true rfl, Nat.le_of_ble_eq_true rfl⟩) (va_recv hK hP (ci := 7) (q0 := 0) rfl rfl) rfl hl.1 rfl (Nat.le_of_ble_eq_true rfl) dX7_limits_63 ⟨Nat.le_of_ble_eq_true rfl, Nat.le_of_ble_eq_true rfl⟩ (fun u22 H locs hw22 hP hD hS => ?_)
        obtain ⟨g22, d22, F22⟩ := u22
        have hP : va_P D vwCl (mw cI a g22 d22 F22) H := hP
        have hD : va_D A (mw cI a g22 d22 F22) := hD
        refine lv_aload_n hx hb dX7_limits_66 rfl (lv_at hl 1 rfl) ?_
        refine lv_iload_n hx hb dX7_limits_67 rfl (lv_at hl 0 rfl) ?_
        refine gc_vi (As := [.int x20]) (rest := []) (w0 := mw cI a g22 d22 F22) (wc := mw cI a g22 d22 F22) (wr := []) (wf := wfM cI a) ⟨hx, hb, hml, hown, hts⟩ hKK hok hP hD hS hA [0, 1, 2, 3, 4, 5, 6] [] rfl rfl (by decide) (s_X7_lapse l D cI a _ g22 d22 F22 x20 hw22.2.1) (cwV 1 hts gX7_limits_X7_lapse rfl rfl rfl (by decide +kernel) ⟨Nat.le_of_ble_eq_true rfl, Nat.le_of_ble_eq_true rfl⟩) (va_recv hK hP (ci := 7) (q0 := 0) rfl rfl) rfl hl.1 rfl (Nat.le_of_ble_eq_true rfl) dX7_limits_68 ⟨Nat.le_of_ble_eq_true rfl, Nat.le_of_ble_eq_true rfl⟩ (fun r23 u23 H locs hw23 hP hD hS => ?_)
        obtain ⟨g23, d23, F23⟩ := u23
        have hP : va_P D vwCl (mw cI a g23 d23 F23) H := hP
        have hD : va_D A (mw cI a g23 d23 F23) := hD
        refine lv_if_ne (tgt := 76) hx hb dX7_limits_71 (by decide) (fun c24 => ?_) (fun c24 => ?_)
        · refine lv_aload_n hx hb dX7_limits_76 rfl (lv_at hl 1 rfl) ?_
          refine gc_vv (As := []) (rest := []) (w0 := mw cI a g23 d23 F23) (wc := mw cI a g23 d23 F23) (wr := []) (wf := wfM cI a) ⟨hx, hb, hml, hown, hts⟩ hKK hok hP hD hS hA [0, 1, 2, 3, 4, 5, 6] [] rfl rfl (by decide) (s_X7_renew l D cI a _ g23 d23 F23 hw23.2.1) (cwV 0 hts gX7_limits_X7_renew rfl rfl rfl (by decide +kernel) ⟨Nat.le_of_ble_eq_true rfl, Nat.le_of_ble_eq_true rfl⟩) (va_recv hK hP (ci := 7) (q0 := 0) rfl rfl) rfl hl.1 rfl (Nat.le_of_ble_eq_true rfl) dX7_limits_77 ⟨Nat.le_of_ble_eq_true rfl, Nat.le_of_ble_eq_true rfl⟩ (fun u25 H locs hw25 hP hD hS => ?_)
          obtain ⟨g25, d25, F25⟩ := u25
          have hP : va_P D vwCl (mw cI a g25 d25 F25) H := hP
          have hD : va_D A (mw cI a g25 d25 F25) := hD
          refine lv_aload_n hx hb dX7_limits_80 rfl (lv_at hl 1 rfl) ?_
          refine lv_aload_n hx hb dX7_limits_81 rfl (lv_at hl 1 rfl) ?_
          refine va_get (D := D) (ci := 7) (v := .int ((g25 31))) (C := RX7) (T := TX7) (N := 41) hx hb hts hi7 hown hK hP 0 rfl rfl 31 (by decide) (hts (.fieldLink RX7 64 "GuardedCallsModel" "left" "I") (by decide +kernel)) (fun _ h9 => h9) rfl dX7_limits_82 ?_
          refine lv_iconst (v := 1) hx hb dX7_limits_85 (by decide) ?_
          refine lv_isub hx hb dX7_limits_86 ?_
          refine lv_topi (fun x26 e26 => ?_)
          refine va_put (D := D) (ci := 7) (v := .int x26) (ty := .int) (C := RX7) (T := TX7) (N := 41) hx hb hts hi7 tyX7 tyX7_ok nmX7 hown hK hP hD hS 0 rfl rfl 31 (by decide) (hts (.fieldLink RX7 64 "GuardedCallsModel" "left" "I") (by decide +kernel)) (fun _ h9 => h9) rfl (by decide +kernel) rfl rfl (Nat.le_of_ble_eq_true rfl) dX7_limits_87 (fun H locs hP hD hS => ?_)
          have hP : va_P D vwCl (mw cI a (upd g25 31 x26) d25 F25) H := hP
          have hD : va_D A (mw cI a (upd g25 31 x26) d25 F25) := hD
          refine lv_iconst (v := 0) hx hb dX7_limits_90 (by decide) ?_
          exact W.iret (v := 0) hx hb hr (fun t ht hW => ⟨⟨_, (upd g25 31 x26, d25, F25), rfl, ⟨by decide, hw25.2.1, (hw25.2.2.1.trans (hw23.2.2.1.trans (hw22.2.2.1.trans hw15.2.2.1))), (hw25.2.2.2.1.trans (hw23.2.2.2.1.trans (hw22.2.2.2.1.trans hw15.2.2.2.1))), (hw25.2.2.2.2.1.trans (hw23.2.2.2.2.1.trans (hw22.2.2.2.2.1.trans hw15.2.2.2.2.1))), (hw25.2.2.2.2.2.1.trans (hw23.2.2.2.2.2.1.trans (hw22.2.2.2.2.2.1.trans hw15.2.2.2.2.2.1))), (hw25.2.2.2.2.2.2.1.trans (hw23.2.2.2.2.2.2.1.trans (hw22.2.2.2.2.2.2.1.trans hw15.2.2.2.2.2.2.1))), (hw25.2.2.2.2.2.2.2.1.trans (hw23.2.2.2.2.2.2.2.1.trans (hw22.2.2.2.2.2.2.2.1.trans hw15.2.2.2.2.2.2.2.1))), (hw25.2.2.2.2.2.2.2.2.1.trans (hw23.2.2.2.2.2.2.2.2.1.trans (hw22.2.2.2.2.2.2.2.2.1.trans hw15.2.2.2.2.2.2.2.2.1))), (hw25.2.2.2.2.2.2.2.2.2.trans (hw23.2.2.2.2.2.2.2.2.2.trans (hw22.2.2.2.2.2.2.2.2.2.trans hw15.2.2.2.2.2.2.2.2.2)))⟩, by rw [ht]; exact hP, hD⟩, hS.F ht⟩) hS.2.2 dX7_limits_91
        · refine lv_iconst (v := 4) hx hb dX7_limits_74 (by decide) ?_
          exact W.iret (v := 4) hx hb hr (fun t ht hW => ⟨⟨_, (g23, d23, F23), rfl, ⟨by decide, hw23.2.1, (hw23.2.2.1.trans (hw22.2.2.1.trans hw15.2.2.1)), (hw23.2.2.2.1.trans (hw22.2.2.2.1.trans hw15.2.2.2.1)), (hw23.2.2.2.2.1.trans (hw22.2.2.2.2.1.trans hw15.2.2.2.2.1)), (hw23.2.2.2.2.2.1.trans (hw22.2.2.2.2.2.1.trans hw15.2.2.2.2.2.1)), (hw23.2.2.2.2.2.2.1.trans (hw22.2.2.2.2.2.2.1.trans hw15.2.2.2.2.2.2.1)), (hw23.2.2.2.2.2.2.2.1.trans (hw22.2.2.2.2.2.2.2.1.trans hw15.2.2.2.2.2.2.2.1)), (hw23.2.2.2.2.2.2.2.2.1.trans (hw22.2.2.2.2.2.2.2.2.1.trans hw15.2.2.2.2.2.2.2.2.1)), (hw23.2.2.2.2.2.2.2.2.2.trans (hw22.2.2.2.2.2.2.2.2.2.trans hw15.2.2.2.2.2.2.2.2.2))⟩, by rw [ht]; exact hP, hD⟩, hS.F ht⟩) hS.2.2 dX7_limits_75
      · refine lv_aload_n hx hb dX7_limits_52 rfl (lv_at hl 1 rfl) ?_
        refine lv_bipush (v := 21) hx hb dX7_limits_53 (by decide) ?_
        refine gc_vv (As := [.int 21]) (rest := []) (w0 := mw cI a g15 d15 F15) (wc := mw cI a g15 d15 F15) (wr := []) (wf := wfM cI a) ⟨hx, hb, hml, hown, hts⟩ hKK hok hP hD hS hA [0, 1, 2, 3, 4, 5, 6] [] rfl rfl (by decide) (s_X7_note l D cI a _ g15 d15 F15 21 hw15.2.1) (cwV 1 hts gX7_limits_X7_note rfl rfl rfl (by decide +kernel) ⟨Nat.le_of_ble_eq_true rfl, Nat.le_of_ble_eq_true rfl⟩) (va_recv hK hP (ci := 7) (q0 := 0) rfl rfl) rfl hl.1 rfl (Nat.le_of_ble_eq_true rfl) dX7_limits_55 ⟨Nat.le_of_ble_eq_true rfl, Nat.le_of_ble_eq_true rfl⟩ (fun u27 H locs hw27 hP hD hS => ?_)
        obtain ⟨g27, d27, F27⟩ := u27
        have hP : va_P D vwCl (mw cI a g27 d27 F27) H := hP
        have hD : va_D A (mw cI a g27 d27 F27) := hD
        refine lv_iconst (v := 3) hx hb dX7_limits_58 (by decide) ?_
        exact W.iret (v := 3) hx hb hr (fun t ht hW => ⟨⟨_, (g27, d27, F27), rfl, ⟨by decide, hw27.2.1, (hw27.2.2.1.trans hw15.2.2.1), (hw27.2.2.2.1.trans hw15.2.2.2.1), (hw27.2.2.2.2.1.trans hw15.2.2.2.2.1), (hw27.2.2.2.2.2.1.trans hw15.2.2.2.2.2.1), (hw27.2.2.2.2.2.2.1.trans hw15.2.2.2.2.2.2.1), (hw27.2.2.2.2.2.2.2.1.trans hw15.2.2.2.2.2.2.2.1), (hw27.2.2.2.2.2.2.2.2.1.trans hw15.2.2.2.2.2.2.2.2.1), (hw27.2.2.2.2.2.2.2.2.2.trans hw15.2.2.2.2.2.2.2.2.2)⟩, by rw [ht]; exact hP, hD⟩, hS.F ht⟩) hS.2.2 dX7_limits_59
set_option maxHeartbeats 4000000 in
set_option maxRecDepth 100000 in
theorem s_X7_isAgain (l : Launch) (D : va_G) (cI : ClassId) (a : Nat → Nat) (sz : Nat) (g : Nat → Int32) (d : Nat → UInt64) (F : Nat → Nat → Int32) (p_c : Int32) : Met l yX7_isAgain wsX7_isAgain ({ frames := 0, cells := 0, slots := 0, locals := 0 }) (gP (KM D cI) D (mw cI a g d F) sz [.ref (a 0), .int p_c]) (va_Qi (fun (r : Int32) (u : SS) => u = (g, d, F)) (gB D (wfM cI a) (va_A (mw cI a g d F) sz)) (va_A (mw cI a g d F) sz)) 0 0 (va_A (mw cI a g d F) sz) := by
  refine Met.ofW (cc := cX7_isAgain) (maxL := 2) (ret := (some .boolean)) (by decide) rfl ?_
  intro p e s m args below meth c s₁ B hml hv
  obtain ⟨rfl, hsz, hP, hD0, hKK⟩ := hv
  have hx := B.exec
  have hb := B.bytes
  have hr := B.returns
  have hts := atoms_spec (ws := wsX7_isAgain) B.pre
  have hown : s.vm.findClass RX7 = some m.cls := findClass_of_methodNamed B.named
  have hlocks := B.notSynchronized
  subst hsz
  have hK := hKK.1
  have hok := KM_ok D cI
  have hD := hD0.self (sz := s.heap.size)
  generalize hAe : va_A (mw cI a g d F) s.heap.size = A at hD ⊢
  have hi7 : ∀ w ∈ wsX70, w ∈ wsX7_isAgain := fun w h => List.mem_cons_of_mem _ (List.mem_append_right _ h)
  have hA : ∀ q : Nat, s.heap.size ≤ q → A q := fun q h => by rw [← hAe]; exact Or.inr h
  have hS : va_S A s.heap s.heap [] := va_S.rf
  have hP : va_P D vwCl (mw cI a g d F) s.heap := hP
  have hl := lv_entry ([.ref ((a 0)), .int p_c]) (n := 2) (Nat.le_of_ble_eq_true rfl)
  rw [lg_entry_eq]
  generalize (lg_sl ([.ref ((a 0)), .int p_c]) ++ List.replicate (2 - (lg_sl ([.ref ((a 0)), .int p_c])).length) Slot.unset).toArray = ls at hl ⊢
  have hl : lv_has ls 2 [(0, .ref ((a 0))), (1, .int p_c)] := hl
  refine lv_iload_n hx hb dX7_isAgain_0 rfl (lv_at hl 1 rfl) ?_
  refine lv_if_le (tgt := 22) hx hb dX7_isAgain_1 (by decide) (fun c1 => ?_) (fun c1 => ?_)
  · refine lv_iconst (v := 0) hx hb dX7_isAgain_22 (by decide) ?_
    exact W.zret (v := 0) hx hb hr (rfl) (fun t ht hW => ⟨⟨_, (g, d, F), rfl, rfl, by rw [ht]; exact hP, hD⟩, hS.F ht⟩) hS.2.2 dX7_isAgain_23
  · refine lv_aload_n hx hb dX7_isAgain_4 rfl (lv_at hl 0 rfl) ?_
    refine va_get (D := D) (ci := 7) (v := .int ((g 33))) (C := RX7) (T := TX7) (N := 41) hx hb hts hi7 hown hK hP 0 rfl rfl 33 (by decide) (hts (.fieldLink RX7 70 "GuardedCallsModel" "again" "I") (by decide +kernel)) (fun _ h9 => h9) rfl dX7_isAgain_5 ?_
    refine lv_iload_n hx hb dX7_isAgain_8 rfl (lv_at hl 1 rfl) ?_
    refine lv_iconst (v := 1) hx hb dX7_isAgain_9 (by decide) ?_
    refine lv_isub hx hb dX7_isAgain_10 ?_
    refine lv_topi (fun x2 e2 => ?_)
    refine lv_ishr hx hb dX7_isAgain_11 ?_
    refine lv_topi (fun x3 e3 => ?_)
    refine lv_iconst (v := 1) hx hb dX7_isAgain_12 (by decide) ?_
    refine lv_iand hx hb dX7_isAgain_13 ?_
    refine lv_topi (fun x4 e4 => ?_)
    refine lv_iconst (v := 1) hx hb dX7_isAgain_14 (by decide) ?_
    refine lv_icmp_ne (tgt := 22) hx hb dX7_isAgain_15 (by decide) (fun c5 => ?_) (fun c5 => ?_)
    · refine lv_iconst (v := 0) hx hb dX7_isAgain_22 (by decide) ?_
      exact W.zret (v := 0) hx hb hr (rfl) (fun t ht hW => ⟨⟨_, (g, d, F), rfl, rfl, by rw [ht]; exact hP, hD⟩, hS.F ht⟩) hS.2.2 dX7_isAgain_23
    · refine lv_iconst (v := 1) hx hb dX7_isAgain_18 (by decide) ?_
      refine lv_goto (tgt := 23) hx hb dX7_isAgain_19 (by decide) ?_
      exact W.zret (v := 1) hx hb hr (rfl) (fun t ht hW => ⟨⟨_, (g, d, F), rfl, rfl, by rw [ht]; exact hP, hD⟩, hS.F ht⟩) hS.2.2 dX7_isAgain_23
set_option maxHeartbeats 4000000 in
set_option maxRecDepth 100000 in
theorem s_X7_pause (l : Launch) (D : va_G) (cI : ClassId) (a : Nat → Nat) (sz : Nat) (g : Nat → Int32) (d : Nat → UInt64) (F : Nat → Nat → Int32) (hI : MI g d F) : Met l yX7_pause wsX7_pause ({ frames := 0, cells := 0, slots := 0, locals := 0 }) (gP (KM D cI) D (mw cI a g d F) sz [.ref (a 0)]) (va_Qi (fun (r : Int32) (u : SS) => u = (g, d, F)) (gB D (wfM cI a) (va_A (mw cI a g d F) sz)) (va_A (mw cI a g d F) sz)) 0 0 (va_A (mw cI a g d F) sz) := by
  refine Met.ofW (cc := cX7_pause) (maxL := 4) (ret := (some .int)) (by decide) rfl ?_
  intro p e s m args below meth c s₁ B hml hv
  obtain ⟨rfl, hsz, hP, hD0, hKK⟩ := hv
  have hx := B.exec
  have hb := B.bytes
  have hr := B.returns
  have hts := atoms_spec (ws := wsX7_pause) B.pre
  have hown : s.vm.findClass RX7 = some m.cls := findClass_of_methodNamed B.named
  have hlocks := B.notSynchronized
  subst hsz
  have hK := hKK.1
  have hok := KM_ok D cI
  have hD := hD0.self (sz := s.heap.size)
  generalize hAe : va_A (mw cI a g d F) s.heap.size = A at hD ⊢
  have hi7 : ∀ w ∈ wsX70, w ∈ wsX7_pause := fun w h => List.mem_cons_of_mem _ (List.mem_append_right _ h)
  have hA : ∀ q : Nat, s.heap.size ≤ q → A q := fun q h => by rw [← hAe]; exact Or.inr h
  have hS : va_S A s.heap s.heap [] := va_S.rf
  have hP : va_P D vwCl (mw cI a g d F) s.heap := hP
  have hl := lv_entry ([.ref ((a 0))]) (n := 4) (Nat.le_of_ble_eq_true rfl)
  rw [lg_entry_eq]
  generalize (lg_sl ([.ref ((a 0))]) ++ List.replicate (4 - (lg_sl ([.ref ((a 0))])).length) Slot.unset).toArray = ls at hl ⊢
  have hl : lv_has ls 4 [(0, .ref ((a 0)))] := hl
  refine lv_aload_n hx hb dX7_pause_0 rfl (lv_at hl 0 rfl) ?_
  refine va_get (D := D) (ci := 7) (v := .double ((d 34))) (C := RX7) (T := TX7) (N := 41) hx hb hts hi7 hown hK hP 0 rfl rfl 34 (by decide) (hts (.fieldLink RX7 73 "GuardedCallsModel" "first" "D") (by decide +kernel)) (fun _ h9 => h9) rfl dX7_pause_1 ?_
  refine lv_dstore_n (lv' := [(1, .double ((d 34))), (0, .ref ((a 0)))]) hx hb dX7_pause_4 rfl hl (by decide) rfl (fun ls hl => ?_)
  refine lv_iconst (v := 1) hx hb dX7_pause_5 (by decide) ?_
  refine lv_istore_n (lv' := [(3, .int 1), (1, .double ((d 34))), (0, .ref ((a 0)))]) hx hb dX7_pause_6 rfl hl (by decide) rfl (fun ls hl => ?_)
  refine gl_loop (σ := UInt64 × Int32) (μ := fun q => match q with | (y1_1, y1_3) => (2147483647 - (y1_3).toInt).toNat) (Inv := fun q H locs ls => match q with | (y1_1, y1_3) => N1 y1_1 ∧ va_P D vwCl (mw cI a g d F) H ∧ va_D A (mw cI a g d F) ∧ va_S A s.heap H locs ∧ lv_has ls 4 [(3, .int y1_3), (1, .double y1_1), (0, .ref ((a 0)))]) (fun q H locs ls hv ih1 => ?_) (((d 34)), 1) _ _ _ ⟨hI.2.2.1.1, hP, hD, hS, lv_sub hl [0, 1, 2] rfl⟩
  obtain ⟨y1_1, y1_3⟩ := q
  obtain ⟨hq1_0, hP, hD, hS, hl⟩ := hv
  refine lv_iload_n hx hb dX7_pause_7 rfl (lv_at hl 0 rfl) ?_
  refine lv_aload_n hx hb dX7_pause_8 rfl (lv_at hl 2 rfl) ?_
  refine va_get (D := D) (ci := 7) (v := .int ((g 37))) (C := RX7) (T := TX7) (N := 41) hx hb hts hi7 hown hK hP 0 rfl rfl 37 (by decide) (hts (.fieldLink RX7 151 "GuardedCallsModel" "tried" "I") (by decide +kernel)) (fun _ h9 => h9) rfl dX7_pause_9 ?_
  refine lv_icmp_ge (tgt := 28) hx hb dX7_pause_12 (by decide) (fun c2 => ?_) (fun c2 => ?_)
  · refine lv_dload_n hx hb dX7_pause_28 rfl (lv_at hl 1 rfl) ?_
    refine lv_aload_n hx hb dX7_pause_29 rfl (lv_at hl 2 rfl) ?_
    refine va_get (D := D) (ci := 7) (v := .double ((d 36))) (C := RX7) (T := TX7) (N := 41) hx hb hts hi7 hown hK hP 0 rfl rfl 36 (by decide) (hts (.fieldLink RX7 83 "GuardedCallsModel" "longest" "D") (by decide +kernel)) (fun _ h9 => h9) rfl dX7_pause_30 ?_
    refine lv_dcmp hx hb dX7_pause_33 ?_
    refine lv_if_ge (tgt := 41) hx hb dX7_pause_34 (by decide) (fun c3 => ?_) (fun c3 => ?_)
    · refine lv_aload_n hx hb dX7_pause_41 rfl (lv_at hl 2 rfl) ?_
      refine va_get (D := D) (ci := 7) (v := .double ((d 36))) (C := RX7) (T := TX7) (N := 41) hx hb hts hi7 hown hK hP 0 rfl rfl 36 (by decide) (hts (.fieldLink RX7 83 "GuardedCallsModel" "longest" "D") (by decide +kernel)) (fun _ h9 => h9) rfl dX7_pause_42 ?_
      refine lv_d2i hx hb dX7_pause_45 ?_
      refine lv_topi (fun x4 e4 => ?_)
      exact W.iret (v := x4) hx hb hr (fun t ht hW => ⟨⟨_, (g, d, F), rfl, rfl, by rw [ht]; exact hP, hD⟩, hS.F ht⟩) hS.2.2 dX7_pause_46
    · refine lv_dload_n hx hb dX7_pause_37 rfl (lv_at hl 1 rfl) ?_
      refine lv_goto (tgt := 45) hx hb dX7_pause_38 (by decide) ?_
      refine lv_d2i hx hb dX7_pause_45 ?_
      refine lv_topi (fun x5 e5 => ?_)
      exact W.iret (v := x5) hx hb hr (fun t ht hW => ⟨⟨_, (g, d, F), rfl, rfl, by rw [ht]; exact hP, hD⟩, hS.F ht⟩) hS.2.2 dX7_pause_46
  · refine lv_dload_n hx hb dX7_pause_15 rfl (lv_at hl 1 rfl) ?_
    refine lv_aload_n hx hb dX7_pause_16 rfl (lv_at hl 2 rfl) ?_
    refine va_get (D := D) (ci := 7) (v := .double ((d 35))) (C := RX7) (T := TX7) (N := 41) hx hb hts hi7 hown hK hP 0 rfl rfl 35 (by decide) (hts (.fieldLink RX7 78 "GuardedCallsModel" "times" "D") (by decide +kernel)) (fun _ h9 => h9) rfl dX7_pause_17 ?_
    refine lv_dmul hx hb dX7_pause_20 (n64_of (N1_mul hq1_0 hI.2.2.1.2)) ?_
    refine lv_topd (fun x6 e6 => ?_)
    refine lv_dstore_n (lv' := [(1, .double x6), (3, .int y1_3), (0, .ref ((a 0)))]) hx hb dX7_pause_21 rfl hl (by decide) rfl (fun ls hl => ?_)
    obtain ⟨x7, e7⟩ : ∃ y : Int32, y = y1_3 + 1 := ⟨_, rfl⟩
    refine lv_iinc (v := x7) (lv' := [(3, .int x7), (1, .double x6), (0, .ref ((a 0)))]) hx hb dX7_pause_22 hl (k := 1) rfl (by rw [e7]; rfl) (by decide) rfl (fun ls hl => ?_)
    refine lv_goto (tgt := 7) hx hb dX7_pause_25 (by decide) ?_
    exact ih1 (x6, x7) _ _ _ (by have h1 := i_inc c2; have h2 := i_lt c2; have h3 := (g 37).toInt_lt; show (2147483647 - (x7).toInt).toNat < (2147483647 - (y1_3).toInt).toNat; rw [e7, h1]; omega) ⟨by rw [e6]; exact N1_mul hq1_0 hI.2.2.1.2, hP, hD, hS, lv_sub hl [0, 1, 2] rfl⟩
set_option maxHeartbeats 4000000 in
set_option maxRecDepth 100000 in
theorem s_X7_admits (l : Launch) (D : va_G) (cI : ClassId) (a : Nat → Nat) (sz : Nat) (g : Nat → Int32) (d : Nat → UInt64) (F : Nat → Nat → Int32) (hI : MI g d F) : Met l yX7_admits wsX7_admits ({ frames := 1, cells := 0, slots := 0, locals := 22 }) (gP (KM D cI) D (mw cI a g d F) sz [.ref (a 0)]) (va_Qi (fun (r : Int32) (u : SS) => (r = 0 ∨ (r = 1 ∧ TOK u.1)) ∧ MI u.1 u.2.1 u.2.2 ∧ u.1 3 = g 3 ∧ u.1 26 = g 26 ∧ u.2.2 0 = F 0 ∧ u.1 32 = g 32 ∧ u.1 37 = g 37) (gB D (wfM cI a) (va_A (mw cI a g d F) sz)) (va_A (mw cI a g d F) sz)) 0 0 (va_A (mw cI a g d F) sz) := by
  refine Met.ofW (cc := cX7_admits) (maxL := 1) (ret := (some .boolean)) (by decide) rfl ?_
  intro p e s m args below meth c s₁ B hml hv
  obtain ⟨rfl, hsz, hP, hD0, hKK⟩ := hv
  have hx := B.exec
  have hb := B.bytes
  have hr := B.returns
  have hts := atoms_spec (ws := wsX7_admits) B.pre
  have hown : s.vm.findClass RX7 = some m.cls := findClass_of_methodNamed B.named
  have hlocks := B.notSynchronized
  subst hsz
  have hK := hKK.1
  have hok := KM_ok D cI
  have hD := hD0.self (sz := s.heap.size)
  generalize hAe : va_A (mw cI a g d F) s.heap.size = A at hD ⊢
  have hi7 : ∀ w ∈ wsX70, w ∈ wsX7_admits := fun w h => List.mem_cons_of_mem _ (List.mem_append_right _ h)
  have hA : ∀ q : Nat, s.heap.size ≤ q → A q := fun q h => by rw [← hAe]; exact Or.inr h
  have hS : va_S A s.heap s.heap [] := va_S.rf
  have hP : va_P D vwCl (mw cI a g d F) s.heap := hP
  have hl := lv_entry ([.ref ((a 0))]) (n := 1) (Nat.le_of_ble_eq_true rfl)
  rw [lg_entry_eq]
  generalize (lg_sl ([.ref ((a 0))]) ++ List.replicate (1 - (lg_sl ([.ref ((a 0))])).length) Slot.unset).toArray = ls at hl ⊢
  have hl : lv_has ls 1 [(0, .ref ((a 0)))] := hl
  refine lv_aload_n hx hb dX7_admits_0 rfl (lv_at hl 0 rfl) ?_
  refine va_get (D := D) (ci := 7) (v := .int ((g 18))) (C := RX7) (T := TX7) (N := 41) hx hb hts hi7 hown hK hP 0 rfl rfl 18 (by decide) (hts (.fieldLink RX7 109 "GuardedCallsModel" "state" "I") (by decide +kernel)) (fun _ h9 => h9) rfl dX7_admits_1 ?_
  refine lv_iconst (v := 1) hx hb dX7_admits_4 (by decide) ?_
  refine lv_icmp_ne (tgt := 34) hx hb dX7_admits_5 (by decide) (fun c1 => ?_) (fun c1 => ?_)
  · refine lv_aload_n hx hb dX7_admits_34 rfl (lv_at hl 0 rfl) ?_
    refine va_get (D := D) (ci := 7) (v := .int ((g 18))) (C := RX7) (T := TX7) (N := 41) hx hb hts hi7 hown hK hP 0 rfl rfl 18 (by decide) (hts (.fieldLink RX7 109 "GuardedCallsModel" "state" "I") (by decide +kernel)) (fun _ h9 => h9) rfl dX7_admits_35 ?_
    refine lv_iconst (v := 1) hx hb dX7_admits_38 (by decide) ?_
    refine lv_icmp_eq (tgt := 61) hx hb dX7_admits_39 (by decide) (fun c2 => ?_) (fun c2 => ?_)
    · refine lv_aload_n hx hb dX7_admits_61 rfl (lv_at hl 0 rfl) ?_
      refine lv_iconst (v := 1) hx hb dX7_admits_62 (by decide) ?_
      refine gc_vv (As := [.int 1]) (rest := []) (w0 := mw cI a g d F) (wc := mw cI a g d F) (wr := []) (wf := wfM cI a) ⟨hx, hb, hml, hown, hts⟩ hKK hok hP hD hS hA [0, 1, 2, 3, 4, 5, 6] [] rfl rfl (by decide) (s_X7_note l D cI a _ g d F 1 hI) (cwV 1 hts gX7_admits_X7_note rfl rfl rfl (by decide +kernel) ⟨Nat.le_of_ble_eq_true rfl, Nat.le_of_ble_eq_true rfl⟩) (va_recv hK hP (ci := 7) (q0 := 0) rfl rfl) rfl hl.1 rfl (Nat.le_of_ble_eq_true rfl) dX7_admits_63 ⟨Nat.le_of_ble_eq_true rfl, Nat.le_of_ble_eq_true rfl⟩ (fun u3 H locs hw3 hP hD hS => ?_)
      obtain ⟨g3, d3, F3⟩ := u3
      have hP : va_P D vwCl (mw cI a g3 d3 F3) H := hP
      have hD : va_D A (mw cI a g3 d3 F3) := hD
      refine lv_iconst (v := 0) hx hb dX7_admits_66 (by decide) ?_
      exact W.zret (v := 0) hx hb hr (rfl) (fun t ht hW => ⟨⟨_, (g3, d3, F3), rfl, ⟨Or.inl rfl, hw3.2.1, hw3.2.2.1, hw3.2.2.2.1, hw3.2.2.2.2.1, hw3.2.2.2.2.2.1, hw3.2.2.2.2.2.2.2.2.2⟩, by rw [ht]; exact hP, hD⟩, hS.F ht⟩) hS.2.2 dX7_admits_67
    · refine lv_aload_n hx hb dX7_admits_42 rfl (lv_at hl 0 rfl) ?_
      refine va_get (D := D) (ci := 7) (v := .int ((g 18))) (C := RX7) (T := TX7) (N := 41) hx hb hts hi7 hown hK hP 0 rfl rfl 18 (by decide) (hts (.fieldLink RX7 109 "GuardedCallsModel" "state" "I") (by decide +kernel)) (fun _ h9 => h9) rfl dX7_admits_43 ?_
      refine lv_iconst (v := 2) hx hb dX7_admits_46 (by decide) ?_
      refine lv_icmp_ne (tgt := 68) hx hb dX7_admits_47 (by decide) (fun c4 => ?_) (fun c4 => ?_)
      · refine lv_aload_n hx hb dX7_admits_68 rfl (lv_at hl 0 rfl) ?_
        refine lv_aload_n hx hb dX7_admits_69 rfl (lv_at hl 0 rfl) ?_
        refine va_get (D := D) (ci := 7) (v := .int ((g 18))) (C := RX7) (T := TX7) (N := 41) hx hb hts hi7 hown hK hP 0 rfl rfl 18 (by decide) (hts (.fieldLink RX7 109 "GuardedCallsModel" "state" "I") (by decide +kernel)) (fun _ h9 => h9) rfl dX7_admits_70 ?_
        refine lv_iconst (v := 2) hx hb dX7_admits_73 (by decide) ?_
        refine lv_icmp_ne (tgt := 81) hx hb dX7_admits_74 (by decide) (fun c5 => ?_) (fun c5 => ?_)
        · refine lv_iconst (v := 0) hx hb dX7_admits_81 (by decide) ?_
          refine va_put (D := D) (ci := 7) (v := .int 0) (ty := .boolean) (C := RX7) (T := TX7) (N := 41) hx hb hts hi7 tyX7 tyX7_ok nmX7 hown hK hP hD hS 0 rfl rfl 23 (by decide) (hts (.fieldLink RX7 130 "GuardedCallsModel" "trial" "Z") (by decide +kernel)) (fun _ h9 => h9) rfl (by decide +kernel) rfl rfl (Nat.le_of_ble_eq_true rfl) dX7_admits_82 (fun H locs hP hD hS => ?_)
          have hP : va_P D vwCl (mw cI a (upd g 23 0) d F) H := hP
          have hD : va_D A (mw cI a (upd g 23 0) d F) := hD
          refine lv_aload_n hx hb dX7_admits_85 rfl (lv_at hl 0 rfl) ?_
          refine lv_aload_n hx hb dX7_admits_86 rfl (lv_at hl 0 rfl) ?_
          refine va_get (D := D) (ci := 7) (v := .int 0) (C := RX7) (T := TX7) (N := 41) hx hb hts hi7 hown hK hP 0 rfl rfl 23 (by decide) (hts (.fieldLink RX7 130 "GuardedCallsModel" "trial" "Z") (by decide +kernel)) (fun _ h9 => h9) rfl dX7_admits_87 ?_
          refine lv_if_eq (tgt := 102) hx hb dX7_admits_90 (by decide) (fun c6 => ?_) (fun c6 => ?_)
          · refine lv_aload_n hx hb dX7_admits_102 rfl (lv_at hl 0 rfl) ?_
            refine va_get (D := D) (ci := 7) (v := .int ((g 20))) (C := RX7) (T := TX7) (N := 41) hx hb hts hi7 hown hK hP 0 rfl rfl 20 (by decide) (hts (.fieldLink RX7 115 "GuardedCallsModel" "trials" "I") (by decide +kernel)) (fun _ h9 => h9) rfl dX7_admits_103 ?_
            refine va_put (D := D) (ci := 7) (v := .int ((g 20))) (ty := .int) (C := RX7) (T := TX7) (N := 41) hx hb hts hi7 tyX7 tyX7_ok nmX7 hown hK hP hD hS 0 rfl rfl 20 (by decide) (hts (.fieldLink RX7 115 "GuardedCallsModel" "trials" "I") (by decide +kernel)) (fun _ h9 => h9) rfl (by decide +kernel) rfl rfl (Nat.le_of_ble_eq_true rfl) dX7_admits_106 (fun H locs hP hD hS => ?_)
            have hP : va_P D vwCl (mw cI a (upd (upd g 23 0) 20 ((g 20))) d F) H := hP
            have hD : va_D A (mw cI a (upd (upd g 23 0) 20 ((g 20))) d F) := hD
            refine lv_aload_n hx hb dX7_admits_109 rfl (lv_at hl 0 rfl) ?_
            refine lv_aload_n hx hb dX7_admits_110 rfl (lv_at hl 0 rfl) ?_
            refine va_get (D := D) (ci := 7) (v := .int ((g 1))) (C := RX7) (T := TX7) (N := 41) hx hb hts hi7 hown hK hP 0 rfl rfl 1 (by decide) (hts (.fieldLink RX7 102 "GuardedCallsModel" "clock" "I") (by decide +kernel)) (fun _ h9 => h9) rfl dX7_admits_111 ?_
            refine va_put (D := D) (ci := 7) (v := .int ((g 1))) (ty := .int) (C := RX7) (T := TX7) (N := 41) hx hb hts hi7 tyX7 tyX7_ok nmX7 hown hK hP hD hS 0 rfl rfl 24 (by decide) (hts (.fieldLink RX7 134 "GuardedCallsModel" "before" "I") (by decide +kernel)) (fun _ h9 => h9) rfl (by decide +kernel) rfl rfl (Nat.le_of_ble_eq_true rfl) dX7_admits_114 (fun H locs hP hD hS => ?_)
            have hP : va_P D vwCl (mw cI a (upd (upd (upd g 23 0) 20 ((g 20))) 24 ((g 1))) d F) H := hP
            have hD : va_D A (mw cI a (upd (upd (upd g 23 0) 20 ((g 20))) 24 ((g 1))) d F) := hD
            refine lv_iconst (v := 1) hx hb dX7_admits_117 (by decide) ?_
            exact W.zret (v := 1) hx hb hr (rfl) (fun t ht hW => ⟨⟨_, (upd (upd (upd g 23 0) 20 ((g 20))) 24 ((g 1)), d, F), rfl, ⟨Or.inr ⟨rfl, Or.inr ⟨rfl, c5⟩⟩, hI, rfl, rfl, rfl, rfl, rfl⟩, by rw [ht]; exact hP, hD⟩, hS.F ht⟩) hS.2.2 dX7_admits_118
          · exact absurd c6 (by decide)
        · refine lv_iconst (v := 1) hx hb dX7_admits_77 (by decide) ?_
          refine lv_goto (tgt := 82) hx hb dX7_admits_78 (by decide) ?_
          refine va_put (D := D) (ci := 7) (v := .int 1) (ty := .boolean) (C := RX7) (T := TX7) (N := 41) hx hb hts hi7 tyX7 tyX7_ok nmX7 hown hK hP hD hS 0 rfl rfl 23 (by decide) (hts (.fieldLink RX7 130 "GuardedCallsModel" "trial" "Z") (by decide +kernel)) (fun _ h9 => h9) rfl (by decide +kernel) rfl rfl (Nat.le_of_ble_eq_true rfl) dX7_admits_82 (fun H locs hP hD hS => ?_)
          have hP : va_P D vwCl (mw cI a (upd g 23 1) d F) H := hP
          have hD : va_D A (mw cI a (upd g 23 1) d F) := hD
          refine lv_aload_n hx hb dX7_admits_85 rfl (lv_at hl 0 rfl) ?_
          refine lv_aload_n hx hb dX7_admits_86 rfl (lv_at hl 0 rfl) ?_
          refine va_get (D := D) (ci := 7) (v := .int 1) (C := RX7) (T := TX7) (N := 41) hx hb hts hi7 hown hK hP 0 rfl rfl 23 (by decide) (hts (.fieldLink RX7 130 "GuardedCallsModel" "trial" "Z") (by decide +kernel)) (fun _ h9 => h9) rfl dX7_admits_87 ?_
          refine lv_if_eq (tgt := 102) hx hb dX7_admits_90 (by decide) (fun c7 => ?_) (fun c7 => ?_)
          · exact absurd c7 (by decide)
          · refine lv_aload_n hx hb dX7_admits_93 rfl (lv_at hl 0 rfl) ?_
            refine va_get (D := D) (ci := 7) (v := .int ((g 20))) (C := RX7) (T := TX7) (N := 41) hx hb hts hi7 hown hK hP 0 rfl rfl 20 (by decide) (hts (.fieldLink RX7 115 "GuardedCallsModel" "trials" "I") (by decide +kernel)) (fun _ h9 => h9) rfl dX7_admits_94 ?_
            refine lv_iconst (v := 1) hx hb dX7_admits_97 (by decide) ?_
            refine lv_iadd hx hb dX7_admits_98 ?_
            refine lv_topi (fun x8 e8 => ?_)
            refine lv_goto (tgt := 106) hx hb dX7_admits_99 (by decide) ?_
            refine va_put (D := D) (ci := 7) (v := .int x8) (ty := .int) (C := RX7) (T := TX7) (N := 41) hx hb hts hi7 tyX7 tyX7_ok nmX7 hown hK hP hD hS 0 rfl rfl 20 (by decide) (hts (.fieldLink RX7 115 "GuardedCallsModel" "trials" "I") (by decide +kernel)) (fun _ h9 => h9) rfl (by decide +kernel) rfl rfl (Nat.le_of_ble_eq_true rfl) dX7_admits_106 (fun H locs hP hD hS => ?_)
            have hP : va_P D vwCl (mw cI a (upd (upd g 23 1) 20 x8) d F) H := hP
            have hD : va_D A (mw cI a (upd (upd g 23 1) 20 x8) d F) := hD
            refine lv_aload_n hx hb dX7_admits_109 rfl (lv_at hl 0 rfl) ?_
            refine lv_aload_n hx hb dX7_admits_110 rfl (lv_at hl 0 rfl) ?_
            refine va_get (D := D) (ci := 7) (v := .int ((g 1))) (C := RX7) (T := TX7) (N := 41) hx hb hts hi7 hown hK hP 0 rfl rfl 1 (by decide) (hts (.fieldLink RX7 102 "GuardedCallsModel" "clock" "I") (by decide +kernel)) (fun _ h9 => h9) rfl dX7_admits_111 ?_
            refine va_put (D := D) (ci := 7) (v := .int ((g 1))) (ty := .int) (C := RX7) (T := TX7) (N := 41) hx hb hts hi7 tyX7 tyX7_ok nmX7 hown hK hP hD hS 0 rfl rfl 24 (by decide) (hts (.fieldLink RX7 134 "GuardedCallsModel" "before" "I") (by decide +kernel)) (fun _ h9 => h9) rfl (by decide +kernel) rfl rfl (Nat.le_of_ble_eq_true rfl) dX7_admits_114 (fun H locs hP hD hS => ?_)
            have hP : va_P D vwCl (mw cI a (upd (upd (upd g 23 1) 20 x8) 24 ((g 1))) d F) H := hP
            have hD : va_D A (mw cI a (upd (upd (upd g 23 1) 20 x8) 24 ((g 1))) d F) := hD
            refine lv_iconst (v := 1) hx hb dX7_admits_117 (by decide) ?_
            exact W.zret (v := 1) hx hb hr (rfl) (fun t ht hW => ⟨⟨_, (upd (upd (upd g 23 1) 20 x8) 24 ((g 1)), d, F), rfl, ⟨Or.inr ⟨rfl, Or.inl ⟨rfl, c5⟩⟩, hI, rfl, rfl, rfl, rfl, rfl⟩, by rw [ht]; exact hP, hD⟩, hS.F ht⟩) hS.2.2 dX7_admits_118
      · refine lv_aload_n hx hb dX7_admits_50 rfl (lv_at hl 0 rfl) ?_
        refine va_get (D := D) (ci := 7) (v := .int ((g 20))) (C := RX7) (T := TX7) (N := 41) hx hb hts hi7 hown hK hP 0 rfl rfl 20 (by decide) (hts (.fieldLink RX7 115 "GuardedCallsModel" "trials" "I") (by decide +kernel)) (fun _ h9 => h9) rfl dX7_admits_51 ?_
        refine lv_aload_n hx hb dX7_admits_54 rfl (lv_at hl 0 rfl) ?_
        refine va_get (D := D) (ci := 7) (v := .int ((g 14))) (C := RX7) (T := TX7) (N := 41) hx hb hts hi7 hown hK hP 0 rfl rfl 14 (by decide) (hts (.fieldLink RX7 32 "GuardedCallsModel" "most" "I") (by decide +kernel)) (fun _ h9 => h9) rfl dX7_admits_55 ?_
        refine lv_icmp_lt (tgt := 68) hx hb dX7_admits_58 (by decide) (fun c9 => ?_) (fun c9 => ?_)
        · refine lv_aload_n hx hb dX7_admits_68 rfl (lv_at hl 0 rfl) ?_
          refine lv_aload_n hx hb dX7_admits_69 rfl (lv_at hl 0 rfl) ?_
          refine va_get (D := D) (ci := 7) (v := .int ((g 18))) (C := RX7) (T := TX7) (N := 41) hx hb hts hi7 hown hK hP 0 rfl rfl 18 (by decide) (hts (.fieldLink RX7 109 "GuardedCallsModel" "state" "I") (by decide +kernel)) (fun _ h9 => h9) rfl dX7_admits_70 ?_
          refine lv_iconst (v := 2) hx hb dX7_admits_73 (by decide) ?_
          refine lv_icmp_ne (tgt := 81) hx hb dX7_admits_74 (by decide) (fun c10 => ?_) (fun c10 => ?_)
          · refine lv_iconst (v := 0) hx hb dX7_admits_81 (by decide) ?_
            refine va_put (D := D) (ci := 7) (v := .int 0) (ty := .boolean) (C := RX7) (T := TX7) (N := 41) hx hb hts hi7 tyX7 tyX7_ok nmX7 hown hK hP hD hS 0 rfl rfl 23 (by decide) (hts (.fieldLink RX7 130 "GuardedCallsModel" "trial" "Z") (by decide +kernel)) (fun _ h9 => h9) rfl (by decide +kernel) rfl rfl (Nat.le_of_ble_eq_true rfl) dX7_admits_82 (fun H locs hP hD hS => ?_)
            have hP : va_P D vwCl (mw cI a (upd g 23 0) d F) H := hP
            have hD : va_D A (mw cI a (upd g 23 0) d F) := hD
            refine lv_aload_n hx hb dX7_admits_85 rfl (lv_at hl 0 rfl) ?_
            refine lv_aload_n hx hb dX7_admits_86 rfl (lv_at hl 0 rfl) ?_
            refine va_get (D := D) (ci := 7) (v := .int 0) (C := RX7) (T := TX7) (N := 41) hx hb hts hi7 hown hK hP 0 rfl rfl 23 (by decide) (hts (.fieldLink RX7 130 "GuardedCallsModel" "trial" "Z") (by decide +kernel)) (fun _ h9 => h9) rfl dX7_admits_87 ?_
            refine lv_if_eq (tgt := 102) hx hb dX7_admits_90 (by decide) (fun c11 => ?_) (fun c11 => ?_)
            · refine lv_aload_n hx hb dX7_admits_102 rfl (lv_at hl 0 rfl) ?_
              refine va_get (D := D) (ci := 7) (v := .int ((g 20))) (C := RX7) (T := TX7) (N := 41) hx hb hts hi7 hown hK hP 0 rfl rfl 20 (by decide) (hts (.fieldLink RX7 115 "GuardedCallsModel" "trials" "I") (by decide +kernel)) (fun _ h9 => h9) rfl dX7_admits_103 ?_
              refine va_put (D := D) (ci := 7) (v := .int ((g 20))) (ty := .int) (C := RX7) (T := TX7) (N := 41) hx hb hts hi7 tyX7 tyX7_ok nmX7 hown hK hP hD hS 0 rfl rfl 20 (by decide) (hts (.fieldLink RX7 115 "GuardedCallsModel" "trials" "I") (by decide +kernel)) (fun _ h9 => h9) rfl (by decide +kernel) rfl rfl (Nat.le_of_ble_eq_true rfl) dX7_admits_106 (fun H locs hP hD hS => ?_)
              have hP : va_P D vwCl (mw cI a (upd (upd g 23 0) 20 ((g 20))) d F) H := hP
              have hD : va_D A (mw cI a (upd (upd g 23 0) 20 ((g 20))) d F) := hD
              refine lv_aload_n hx hb dX7_admits_109 rfl (lv_at hl 0 rfl) ?_
              refine lv_aload_n hx hb dX7_admits_110 rfl (lv_at hl 0 rfl) ?_
              refine va_get (D := D) (ci := 7) (v := .int ((g 1))) (C := RX7) (T := TX7) (N := 41) hx hb hts hi7 hown hK hP 0 rfl rfl 1 (by decide) (hts (.fieldLink RX7 102 "GuardedCallsModel" "clock" "I") (by decide +kernel)) (fun _ h9 => h9) rfl dX7_admits_111 ?_
              refine va_put (D := D) (ci := 7) (v := .int ((g 1))) (ty := .int) (C := RX7) (T := TX7) (N := 41) hx hb hts hi7 tyX7 tyX7_ok nmX7 hown hK hP hD hS 0 rfl rfl 24 (by decide) (hts (.fieldLink RX7 134 "GuardedCallsModel" "before" "I") (by decide +kernel)) (fun _ h9 => h9) rfl (by decide +kernel) rfl rfl (Nat.le_of_ble_eq_true rfl) dX7_admits_114 (fun H locs hP hD hS => ?_)
              have hP : va_P D vwCl (mw cI a (upd (upd (upd g 23 0) 20 ((g 20))) 24 ((g 1))) d F) H := hP
              have hD : va_D A (mw cI a (upd (upd (upd g 23 0) 20 ((g 20))) 24 ((g 1))) d F) := hD
              refine lv_iconst (v := 1) hx hb dX7_admits_117 (by decide) ?_
              exact W.zret (v := 1) hx hb hr (rfl) (fun t ht hW => ⟨⟨_, (upd (upd (upd g 23 0) 20 ((g 20))) 24 ((g 1)), d, F), rfl, ⟨Or.inr ⟨rfl, Or.inr ⟨rfl, c10⟩⟩, hI, rfl, rfl, rfl, rfl, rfl⟩, by rw [ht]; exact hP, hD⟩, hS.F ht⟩) hS.2.2 dX7_admits_118
            · exact absurd c11 (by decide)
          · refine lv_iconst (v := 1) hx hb dX7_admits_77 (by decide) ?_
            refine lv_goto (tgt := 82) hx hb dX7_admits_78 (by decide) ?_
            refine va_put (D := D) (ci := 7) (v := .int 1) (ty := .boolean) (C := RX7) (T := TX7) (N := 41) hx hb hts hi7 tyX7 tyX7_ok nmX7 hown hK hP hD hS 0 rfl rfl 23 (by decide) (hts (.fieldLink RX7 130 "GuardedCallsModel" "trial" "Z") (by decide +kernel)) (fun _ h9 => h9) rfl (by decide +kernel) rfl rfl (Nat.le_of_ble_eq_true rfl) dX7_admits_82 (fun H locs hP hD hS => ?_)
            have hP : va_P D vwCl (mw cI a (upd g 23 1) d F) H := hP
            have hD : va_D A (mw cI a (upd g 23 1) d F) := hD
            refine lv_aload_n hx hb dX7_admits_85 rfl (lv_at hl 0 rfl) ?_
            refine lv_aload_n hx hb dX7_admits_86 rfl (lv_at hl 0 rfl) ?_
            refine va_get (D := D) (ci := 7) (v := .int 1) (C := RX7) (T := TX7) (N := 41) hx hb hts hi7 hown hK hP 0 rfl rfl 23 (by decide) (hts (.fieldLink RX7 130 "GuardedCallsModel" "trial" "Z") (by decide +kernel)) (fun _ h9 => h9) rfl dX7_admits_87 ?_
            refine lv_if_eq (tgt := 102) hx hb dX7_admits_90 (by decide) (fun c12 => ?_) (fun c12 => ?_)
            · exact absurd c12 (by decide)
            · refine lv_aload_n hx hb dX7_admits_93 rfl (lv_at hl 0 rfl) ?_
              refine va_get (D := D) (ci := 7) (v := .int ((g 20))) (C := RX7) (T := TX7) (N := 41) hx hb hts hi7 hown hK hP 0 rfl rfl 20 (by decide) (hts (.fieldLink RX7 115 "GuardedCallsModel" "trials" "I") (by decide +kernel)) (fun _ h9 => h9) rfl dX7_admits_94 ?_
              refine lv_iconst (v := 1) hx hb dX7_admits_97 (by decide) ?_
              refine lv_iadd hx hb dX7_admits_98 ?_
              refine lv_topi (fun x13 e13 => ?_)
              refine lv_goto (tgt := 106) hx hb dX7_admits_99 (by decide) ?_
              refine va_put (D := D) (ci := 7) (v := .int x13) (ty := .int) (C := RX7) (T := TX7) (N := 41) hx hb hts hi7 tyX7 tyX7_ok nmX7 hown hK hP hD hS 0 rfl rfl 20 (by decide) (hts (.fieldLink RX7 115 "GuardedCallsModel" "trials" "I") (by decide +kernel)) (fun _ h9 => h9) rfl (by decide +kernel) rfl rfl (Nat.le_of_ble_eq_true rfl) dX7_admits_106 (fun H locs hP hD hS => ?_)
              have hP : va_P D vwCl (mw cI a (upd (upd g 23 1) 20 x13) d F) H := hP
              have hD : va_D A (mw cI a (upd (upd g 23 1) 20 x13) d F) := hD
              refine lv_aload_n hx hb dX7_admits_109 rfl (lv_at hl 0 rfl) ?_
              refine lv_aload_n hx hb dX7_admits_110 rfl (lv_at hl 0 rfl) ?_
              refine va_get (D := D) (ci := 7) (v := .int ((g 1))) (C := RX7) (T := TX7) (N := 41) hx hb hts hi7 hown hK hP 0 rfl rfl 1 (by decide) (hts (.fieldLink RX7 102 "GuardedCallsModel" "clock" "I") (by decide +kernel)) (fun _ h9 => h9) rfl dX7_admits_111 ?_
              refine va_put (D := D) (ci := 7) (v := .int ((g 1))) (ty := .int) (C := RX7) (T := TX7) (N := 41) hx hb hts hi7 tyX7 tyX7_ok nmX7 hown hK hP hD hS 0 rfl rfl 24 (by decide) (hts (.fieldLink RX7 134 "GuardedCallsModel" "before" "I") (by decide +kernel)) (fun _ h9 => h9) rfl (by decide +kernel) rfl rfl (Nat.le_of_ble_eq_true rfl) dX7_admits_114 (fun H locs hP hD hS => ?_)
              have hP : va_P D vwCl (mw cI a (upd (upd (upd g 23 1) 20 x13) 24 ((g 1))) d F) H := hP
              have hD : va_D A (mw cI a (upd (upd (upd g 23 1) 20 x13) 24 ((g 1))) d F) := hD
              refine lv_iconst (v := 1) hx hb dX7_admits_117 (by decide) ?_
              exact W.zret (v := 1) hx hb hr (rfl) (fun t ht hW => ⟨⟨_, (upd (upd (upd g 23 1) 20 x13) 24 ((g 1)), d, F), rfl, ⟨Or.inr ⟨rfl, Or.inl ⟨rfl, c10⟩⟩, hI, rfl, rfl, rfl, rfl, rfl⟩, by rw [ht]; exact hP, hD⟩, hS.F ht⟩) hS.2.2 dX7_admits_118
        · refine lv_aload_n hx hb dX7_admits_61 rfl (lv_at hl 0 rfl) ?_
          refine lv_iconst (v := 1) hx hb dX7_admits_62 (by decide) ?_
          refine gc_vv (As := [.int 1]) (rest := []) (w0 := mw cI a g d F) (wc := mw cI a g d F) (wr := []) (wf := wfM cI a) ⟨hx, hb, hml, hown, hts⟩ hKK hok hP hD hS hA [0, 1, 2, 3, 4, 5, 6] [] rfl rfl (by decide) (s_X7_note l D cI a _ g d F 1 hI) (cwV 1 hts gX7_admits_X7_note rfl rfl rfl (by decide +kernel) ⟨Nat.le_of_ble_eq_true rfl, Nat.le_of_ble_eq_true rfl⟩) (va_recv hK hP (ci := 7) (q0 := 0) rfl rfl) rfl hl.1 rfl (Nat.le_of_ble_eq_true rfl) dX7_admits_63 ⟨Nat.le_of_ble_eq_true rfl, Nat.le_of_ble_eq_true rfl⟩ (fun u14 H locs hw14 hP hD hS => ?_)
          obtain ⟨g14, d14, F14⟩ := u14
          have hP : va_P D vwCl (mw cI a g14 d14 F14) H := hP
          have hD : va_D A (mw cI a g14 d14 F14) := hD
          refine lv_iconst (v := 0) hx hb dX7_admits_66 (by decide) ?_
          exact W.zret (v := 0) hx hb hr (rfl) (fun t ht hW => ⟨⟨_, (g14, d14, F14), rfl, ⟨Or.inl rfl, hw14.2.1, hw14.2.2.1, hw14.2.2.2.1, hw14.2.2.2.2.1, hw14.2.2.2.2.2.1, hw14.2.2.2.2.2.2.2.2.2⟩, by rw [ht]; exact hP, hD⟩, hS.F ht⟩) hS.2.2 dX7_admits_67
  · refine lv_aload_n hx hb dX7_admits_8 rfl (lv_at hl 0 rfl) ?_
    refine va_get (D := D) (ci := 7) (v := .int ((g 1))) (C := RX7) (T := TX7) (N := 41) hx hb hts hi7 hown hK hP 0 rfl rfl 1 (by decide) (hts (.fieldLink RX7 102 "GuardedCallsModel" "clock" "I") (by decide +kernel)) (fun _ h9 => h9) rfl dX7_admits_9 ?_
    refine lv_aload_n hx hb dX7_admits_12 rfl (lv_at hl 0 rfl) ?_
    refine va_get (D := D) (ci := 7) (v := .int ((g 19))) (C := RX7) (T := TX7) (N := 41) hx hb hts hi7 hown hK hP 0 rfl rfl 19 (by decide) (hts (.fieldLink RX7 124 "GuardedCallsModel" "opened" "I") (by decide +kernel)) (fun _ h9 => h9) rfl dX7_admits_13 ?_
    refine lv_isub hx hb dX7_admits_16 ?_
    refine lv_topi (fun x15 e15 => ?_)
    refine lv_aload_n hx hb dX7_admits_17 rfl (lv_at hl 0 rfl) ?_
    refine va_get (D := D) (ci := 7) (v := .int ((g 13))) (C := RX7) (T := TX7) (N := 41) hx hb hts hi7 hown hK hP 0 rfl rfl 13 (by decide) (hts (.fieldLink RX7 29 "GuardedCallsModel" "rest" "I") (by decide +kernel)) (fun _ h9 => h9) rfl dX7_admits_18 ?_
    refine lv_icmp_lt (tgt := 34) hx hb dX7_admits_21 (by decide) (fun c16 => ?_) (fun c16 => ?_)
    · refine lv_aload_n hx hb dX7_admits_34 rfl (lv_at hl 0 rfl) ?_
      refine va_get (D := D) (ci := 7) (v := .int ((g 18))) (C := RX7) (T := TX7) (N := 41) hx hb hts hi7 hown hK hP 0 rfl rfl 18 (by decide) (hts (.fieldLink RX7 109 "GuardedCallsModel" "state" "I") (by decide +kernel)) (fun _ h9 => h9) rfl dX7_admits_35 ?_
      refine lv_iconst (v := 1) hx hb dX7_admits_38 (by decide) ?_
      refine lv_icmp_eq (tgt := 61) hx hb dX7_admits_39 (by decide) (fun c17 => ?_) (fun c17 => ?_)
      · refine lv_aload_n hx hb dX7_admits_61 rfl (lv_at hl 0 rfl) ?_
        refine lv_iconst (v := 1) hx hb dX7_admits_62 (by decide) ?_
        refine gc_vv (As := [.int 1]) (rest := []) (w0 := mw cI a g d F) (wc := mw cI a g d F) (wr := []) (wf := wfM cI a) ⟨hx, hb, hml, hown, hts⟩ hKK hok hP hD hS hA [0, 1, 2, 3, 4, 5, 6] [] rfl rfl (by decide) (s_X7_note l D cI a _ g d F 1 hI) (cwV 1 hts gX7_admits_X7_note rfl rfl rfl (by decide +kernel) ⟨Nat.le_of_ble_eq_true rfl, Nat.le_of_ble_eq_true rfl⟩) (va_recv hK hP (ci := 7) (q0 := 0) rfl rfl) rfl hl.1 rfl (Nat.le_of_ble_eq_true rfl) dX7_admits_63 ⟨Nat.le_of_ble_eq_true rfl, Nat.le_of_ble_eq_true rfl⟩ (fun u18 H locs hw18 hP hD hS => ?_)
        obtain ⟨g18, d18, F18⟩ := u18
        have hP : va_P D vwCl (mw cI a g18 d18 F18) H := hP
        have hD : va_D A (mw cI a g18 d18 F18) := hD
        refine lv_iconst (v := 0) hx hb dX7_admits_66 (by decide) ?_
        exact W.zret (v := 0) hx hb hr (rfl) (fun t ht hW => ⟨⟨_, (g18, d18, F18), rfl, ⟨Or.inl rfl, hw18.2.1, hw18.2.2.1, hw18.2.2.2.1, hw18.2.2.2.2.1, hw18.2.2.2.2.2.1, hw18.2.2.2.2.2.2.2.2.2⟩, by rw [ht]; exact hP, hD⟩, hS.F ht⟩) hS.2.2 dX7_admits_67
      · refine lv_aload_n hx hb dX7_admits_42 rfl (lv_at hl 0 rfl) ?_
        refine va_get (D := D) (ci := 7) (v := .int ((g 18))) (C := RX7) (T := TX7) (N := 41) hx hb hts hi7 hown hK hP 0 rfl rfl 18 (by decide) (hts (.fieldLink RX7 109 "GuardedCallsModel" "state" "I") (by decide +kernel)) (fun _ h9 => h9) rfl dX7_admits_43 ?_
        refine lv_iconst (v := 2) hx hb dX7_admits_46 (by decide) ?_
        refine lv_icmp_ne (tgt := 68) hx hb dX7_admits_47 (by decide) (fun c19 => ?_) (fun c19 => ?_)
        · refine lv_aload_n hx hb dX7_admits_68 rfl (lv_at hl 0 rfl) ?_
          refine lv_aload_n hx hb dX7_admits_69 rfl (lv_at hl 0 rfl) ?_
          refine va_get (D := D) (ci := 7) (v := .int ((g 18))) (C := RX7) (T := TX7) (N := 41) hx hb hts hi7 hown hK hP 0 rfl rfl 18 (by decide) (hts (.fieldLink RX7 109 "GuardedCallsModel" "state" "I") (by decide +kernel)) (fun _ h9 => h9) rfl dX7_admits_70 ?_
          refine lv_iconst (v := 2) hx hb dX7_admits_73 (by decide) ?_
          refine lv_icmp_ne (tgt := 81) hx hb dX7_admits_74 (by decide) (fun c20 => ?_) (fun c20 => ?_)
          · refine lv_iconst (v := 0) hx hb dX7_admits_81 (by decide) ?_
            refine va_put (D := D) (ci := 7) (v := .int 0) (ty := .boolean) (C := RX7) (T := TX7) (N := 41) hx hb hts hi7 tyX7 tyX7_ok nmX7 hown hK hP hD hS 0 rfl rfl 23 (by decide) (hts (.fieldLink RX7 130 "GuardedCallsModel" "trial" "Z") (by decide +kernel)) (fun _ h9 => h9) rfl (by decide +kernel) rfl rfl (Nat.le_of_ble_eq_true rfl) dX7_admits_82 (fun H locs hP hD hS => ?_)
            have hP : va_P D vwCl (mw cI a (upd g 23 0) d F) H := hP
            have hD : va_D A (mw cI a (upd g 23 0) d F) := hD
            refine lv_aload_n hx hb dX7_admits_85 rfl (lv_at hl 0 rfl) ?_
            refine lv_aload_n hx hb dX7_admits_86 rfl (lv_at hl 0 rfl) ?_
            refine va_get (D := D) (ci := 7) (v := .int 0) (C := RX7) (T := TX7) (N := 41) hx hb hts hi7 hown hK hP 0 rfl rfl 23 (by decide) (hts (.fieldLink RX7 130 "GuardedCallsModel" "trial" "Z") (by decide +kernel)) (fun _ h9 => h9) rfl dX7_admits_87 ?_
            refine lv_if_eq (tgt := 102) hx hb dX7_admits_90 (by decide) (fun c21 => ?_) (fun c21 => ?_)
            · refine lv_aload_n hx hb dX7_admits_102 rfl (lv_at hl 0 rfl) ?_
              refine va_get (D := D) (ci := 7) (v := .int ((g 20))) (C := RX7) (T := TX7) (N := 41) hx hb hts hi7 hown hK hP 0 rfl rfl 20 (by decide) (hts (.fieldLink RX7 115 "GuardedCallsModel" "trials" "I") (by decide +kernel)) (fun _ h9 => h9) rfl dX7_admits_103 ?_
              refine va_put (D := D) (ci := 7) (v := .int ((g 20))) (ty := .int) (C := RX7) (T := TX7) (N := 41) hx hb hts hi7 tyX7 tyX7_ok nmX7 hown hK hP hD hS 0 rfl rfl 20 (by decide) (hts (.fieldLink RX7 115 "GuardedCallsModel" "trials" "I") (by decide +kernel)) (fun _ h9 => h9) rfl (by decide +kernel) rfl rfl (Nat.le_of_ble_eq_true rfl) dX7_admits_106 (fun H locs hP hD hS => ?_)
              have hP : va_P D vwCl (mw cI a (upd (upd g 23 0) 20 ((g 20))) d F) H := hP
              have hD : va_D A (mw cI a (upd (upd g 23 0) 20 ((g 20))) d F) := hD
              refine lv_aload_n hx hb dX7_admits_109 rfl (lv_at hl 0 rfl) ?_
              refine lv_aload_n hx hb dX7_admits_110 rfl (lv_at hl 0 rfl) ?_
              refine va_get (D := D) (ci := 7) (v := .int ((g 1))) (C := RX7) (T := TX7) (N := 41) hx hb hts hi7 hown hK hP 0 rfl rfl 1 (by decide) (hts (.fieldLink RX7 102 "GuardedCallsModel" "clock" "I") (by decide +kernel)) (fun _ h9 => h9) rfl dX7_admits_111 ?_
              refine va_put (D := D) (ci := 7) (v := .int ((g 1))) (ty := .int) (C := RX7) (T := TX7) (N := 41) hx hb hts hi7 tyX7 tyX7_ok nmX7 hown hK hP hD hS 0 rfl rfl 24 (by decide) (hts (.fieldLink RX7 134 "GuardedCallsModel" "before" "I") (by decide +kernel)) (fun _ h9 => h9) rfl (by decide +kernel) rfl rfl (Nat.le_of_ble_eq_true rfl) dX7_admits_114 (fun H locs hP hD hS => ?_)
              have hP : va_P D vwCl (mw cI a (upd (upd (upd g 23 0) 20 ((g 20))) 24 ((g 1))) d F) H := hP
              have hD : va_D A (mw cI a (upd (upd (upd g 23 0) 20 ((g 20))) 24 ((g 1))) d F) := hD
              refine lv_iconst (v := 1) hx hb dX7_admits_117 (by decide) ?_
              exact W.zret (v := 1) hx hb hr (rfl) (fun t ht hW => ⟨⟨_, (upd (upd (upd g 23 0) 20 ((g 20))) 24 ((g 1)), d, F), rfl, ⟨Or.inr ⟨rfl, Or.inr ⟨rfl, c20⟩⟩, hI, rfl, rfl, rfl, rfl, rfl⟩, by rw [ht]; exact hP, hD⟩, hS.F ht⟩) hS.2.2 dX7_admits_118
            · exact absurd c21 (by decide)
          · refine lv_iconst (v := 1) hx hb dX7_admits_77 (by decide) ?_
            refine lv_goto (tgt := 82) hx hb dX7_admits_78 (by decide) ?_
            refine va_put (D := D) (ci := 7) (v := .int 1) (ty := .boolean) (C := RX7) (T := TX7) (N := 41) hx hb hts hi7 tyX7 tyX7_ok nmX7 hown hK hP hD hS 0 rfl rfl 23 (by decide) (hts (.fieldLink RX7 130 "GuardedCallsModel" "trial" "Z") (by decide +kernel)) (fun _ h9 => h9) rfl (by decide +kernel) rfl rfl (Nat.le_of_ble_eq_true rfl) dX7_admits_82 (fun H locs hP hD hS => ?_)
            have hP : va_P D vwCl (mw cI a (upd g 23 1) d F) H := hP
            have hD : va_D A (mw cI a (upd g 23 1) d F) := hD
            refine lv_aload_n hx hb dX7_admits_85 rfl (lv_at hl 0 rfl) ?_
            refine lv_aload_n hx hb dX7_admits_86 rfl (lv_at hl 0 rfl) ?_
            refine va_get (D := D) (ci := 7) (v := .int 1) (C := RX7) (T := TX7) (N := 41) hx hb hts hi7 hown hK hP 0 rfl rfl 23 (by decide) (hts (.fieldLink RX7 130 "GuardedCallsModel" "trial" "Z") (by decide +kernel)) (fun _ h9 => h9) rfl dX7_admits_87 ?_
            refine lv_if_eq (tgt := 102) hx hb dX7_admits_90 (by decide) (fun c22 => ?_) (fun c22 => ?_)
            · exact absurd c22 (by decide)
            · refine lv_aload_n hx hb dX7_admits_93 rfl (lv_at hl 0 rfl) ?_
              refine va_get (D := D) (ci := 7) (v := .int ((g 20))) (C := RX7) (T := TX7) (N := 41) hx hb hts hi7 hown hK hP 0 rfl rfl 20 (by decide) (hts (.fieldLink RX7 115 "GuardedCallsModel" "trials" "I") (by decide +kernel)) (fun _ h9 => h9) rfl dX7_admits_94 ?_
              refine lv_iconst (v := 1) hx hb dX7_admits_97 (by decide) ?_
              refine lv_iadd hx hb dX7_admits_98 ?_
              refine lv_topi (fun x23 e23 => ?_)
              refine lv_goto (tgt := 106) hx hb dX7_admits_99 (by decide) ?_
              refine va_put (D := D) (ci := 7) (v := .int x23) (ty := .int) (C := RX7) (T := TX7) (N := 41) hx hb hts hi7 tyX7 tyX7_ok nmX7 hown hK hP hD hS 0 rfl rfl 20 (by decide) (hts (.fieldLink RX7 115 "GuardedCallsModel" "trials" "I") (by decide +kernel)) (fun _ h9 => h9) rfl (by decide +kernel) rfl rfl (Nat.le_of_ble_eq_true rfl) dX7_admits_106 (fun H locs hP hD hS => ?_)
              have hP : va_P D vwCl (mw cI a (upd (upd g 23 1) 20 x23) d F) H := hP
              have hD : va_D A (mw cI a (upd (upd g 23 1) 20 x23) d F) := hD
              refine lv_aload_n hx hb dX7_admits_109 rfl (lv_at hl 0 rfl) ?_
              refine lv_aload_n hx hb dX7_admits_110 rfl (lv_at hl 0 rfl) ?_
              refine va_get (D := D) (ci := 7) (v := .int ((g 1))) (C := RX7) (T := TX7) (N := 41) hx hb hts hi7 hown hK hP 0 rfl rfl 1 (by decide) (hts (.fieldLink RX7 102 "GuardedCallsModel" "clock" "I") (by decide +kernel)) (fun _ h9 => h9) rfl dX7_admits_111 ?_
              refine va_put (D := D) (ci := 7) (v := .int ((g 1))) (ty := .int) (C := RX7) (T := TX7) (N := 41) hx hb hts hi7 tyX7 tyX7_ok nmX7 hown hK hP hD hS 0 rfl rfl 24 (by decide) (hts (.fieldLink RX7 134 "GuardedCallsModel" "before" "I") (by decide +kernel)) (fun _ h9 => h9) rfl (by decide +kernel) rfl rfl (Nat.le_of_ble_eq_true rfl) dX7_admits_114 (fun H locs hP hD hS => ?_)
              have hP : va_P D vwCl (mw cI a (upd (upd (upd g 23 1) 20 x23) 24 ((g 1))) d F) H := hP
              have hD : va_D A (mw cI a (upd (upd (upd g 23 1) 20 x23) 24 ((g 1))) d F) := hD
              refine lv_iconst (v := 1) hx hb dX7_admits_117 (by decide) ?_
              exact W.zret (v := 1) hx hb hr (rfl) (fun t ht hW => ⟨⟨_, (upd (upd (upd g 23 1) 20 x23) 24 ((g 1)), d, F), rfl, ⟨Or.inr ⟨rfl, Or.inl ⟨rfl, c20⟩⟩, hI, rfl, rfl, rfl, rfl, rfl⟩, by rw [ht]; exact hP, hD⟩, hS.F ht⟩) hS.2.2 dX7_admits_118
        · refine lv_aload_n hx hb dX7_admits_50 rfl (lv_at hl 0 rfl) ?_
          refine va_get (D := D) (ci := 7) (v := .int ((g 20))) (C := RX7) (T := TX7) (N := 41) hx hb hts hi7 hown hK hP 0 rfl rfl 20 (by decide) (hts (.fieldLink RX7 115 "GuardedCallsModel" "trials" "I") (by decide +kernel)) (fun _ h9 => h9) rfl dX7_admits_51 ?_
          refine lv_aload_n hx hb dX7_admits_54 rfl (lv_at hl 0 rfl) ?_
          refine va_get (D := D) (ci := 7) (v := .int ((g 14))) (C := RX7) (T := TX7) (N := 41) hx hb hts hi7 hown hK hP 0 rfl rfl 14 (by decide) (hts (.fieldLink RX7 32 "GuardedCallsModel" "most" "I") (by decide +kernel)) (fun _ h9 => h9) rfl dX7_admits_55 ?_
          refine lv_icmp_lt (tgt := 68) hx hb dX7_admits_58 (by decide) (fun c24 => ?_) (fun c24 => ?_)
          · refine lv_aload_n hx hb dX7_admits_68 rfl (lv_at hl 0 rfl) ?_
            refine lv_aload_n hx hb dX7_admits_69 rfl (lv_at hl 0 rfl) ?_
            refine va_get (D := D) (ci := 7) (v := .int ((g 18))) (C := RX7) (T := TX7) (N := 41) hx hb hts hi7 hown hK hP 0 rfl rfl 18 (by decide) (hts (.fieldLink RX7 109 "GuardedCallsModel" "state" "I") (by decide +kernel)) (fun _ h9 => h9) rfl dX7_admits_70 ?_
            refine lv_iconst (v := 2) hx hb dX7_admits_73 (by decide) ?_
            refine lv_icmp_ne (tgt := 81) hx hb dX7_admits_74 (by decide) (fun c25 => ?_) (fun c25 => ?_)
            · refine lv_iconst (v := 0) hx hb dX7_admits_81 (by decide) ?_
              refine va_put (D := D) (ci := 7) (v := .int 0) (ty := .boolean) (C := RX7) (T := TX7) (N := 41) hx hb hts hi7 tyX7 tyX7_ok nmX7 hown hK hP hD hS 0 rfl rfl 23 (by decide) (hts (.fieldLink RX7 130 "GuardedCallsModel" "trial" "Z") (by decide +kernel)) (fun _ h9 => h9) rfl (by decide +kernel) rfl rfl (Nat.le_of_ble_eq_true rfl) dX7_admits_82 (fun H locs hP hD hS => ?_)
              have hP : va_P D vwCl (mw cI a (upd g 23 0) d F) H := hP
              have hD : va_D A (mw cI a (upd g 23 0) d F) := hD
              refine lv_aload_n hx hb dX7_admits_85 rfl (lv_at hl 0 rfl) ?_
              refine lv_aload_n hx hb dX7_admits_86 rfl (lv_at hl 0 rfl) ?_
              refine va_get (D := D) (ci := 7) (v := .int 0) (C := RX7) (T := TX7) (N := 41) hx hb hts hi7 hown hK hP 0 rfl rfl 23 (by decide) (hts (.fieldLink RX7 130 "GuardedCallsModel" "trial" "Z") (by decide +kernel)) (fun _ h9 => h9) rfl dX7_admits_87 ?_
              refine lv_if_eq (tgt := 102) hx hb dX7_admits_90 (by decide) (fun c26 => ?_) (fun c26 => ?_)
              · refine lv_aload_n hx hb dX7_admits_102 rfl (lv_at hl 0 rfl) ?_
                refine va_get (D := D) (ci := 7) (v := .int ((g 20))) (C := RX7) (T := TX7) (N := 41) hx hb hts hi7 hown hK hP 0 rfl rfl 20 (by decide) (hts (.fieldLink RX7 115 "GuardedCallsModel" "trials" "I") (by decide +kernel)) (fun _ h9 => h9) rfl dX7_admits_103 ?_
                refine va_put (D := D) (ci := 7) (v := .int ((g 20))) (ty := .int) (C := RX7) (T := TX7) (N := 41) hx hb hts hi7 tyX7 tyX7_ok nmX7 hown hK hP hD hS 0 rfl rfl 20 (by decide) (hts (.fieldLink RX7 115 "GuardedCallsModel" "trials" "I") (by decide +kernel)) (fun _ h9 => h9) rfl (by decide +kernel) rfl rfl (Nat.le_of_ble_eq_true rfl) dX7_admits_106 (fun H locs hP hD hS => ?_)
                have hP : va_P D vwCl (mw cI a (upd (upd g 23 0) 20 ((g 20))) d F) H := hP
                have hD : va_D A (mw cI a (upd (upd g 23 0) 20 ((g 20))) d F) := hD
                refine lv_aload_n hx hb dX7_admits_109 rfl (lv_at hl 0 rfl) ?_
                refine lv_aload_n hx hb dX7_admits_110 rfl (lv_at hl 0 rfl) ?_
                refine va_get (D := D) (ci := 7) (v := .int ((g 1))) (C := RX7) (T := TX7) (N := 41) hx hb hts hi7 hown hK hP 0 rfl rfl 1 (by decide) (hts (.fieldLink RX7 102 "GuardedCallsModel" "clock" "I") (by decide +kernel)) (fun _ h9 => h9) rfl dX7_admits_111 ?_
                refine va_put (D := D) (ci := 7) (v := .int ((g 1))) (ty := .int) (C := RX7) (T := TX7) (N := 41) hx hb hts hi7 tyX7 tyX7_ok nmX7 hown hK hP hD hS 0 rfl rfl 24 (by decide) (hts (.fieldLink RX7 134 "GuardedCallsModel" "before" "I") (by decide +kernel)) (fun _ h9 => h9) rfl (by decide +kernel) rfl rfl (Nat.le_of_ble_eq_true rfl) dX7_admits_114 (fun H locs hP hD hS => ?_)
                have hP : va_P D vwCl (mw cI a (upd (upd (upd g 23 0) 20 ((g 20))) 24 ((g 1))) d F) H := hP
                have hD : va_D A (mw cI a (upd (upd (upd g 23 0) 20 ((g 20))) 24 ((g 1))) d F) := hD
                refine lv_iconst (v := 1) hx hb dX7_admits_117 (by decide) ?_
                exact W.zret (v := 1) hx hb hr (rfl) (fun t ht hW => ⟨⟨_, (upd (upd (upd g 23 0) 20 ((g 20))) 24 ((g 1)), d, F), rfl, ⟨Or.inr ⟨rfl, Or.inr ⟨rfl, c25⟩⟩, hI, rfl, rfl, rfl, rfl, rfl⟩, by rw [ht]; exact hP, hD⟩, hS.F ht⟩) hS.2.2 dX7_admits_118
              · exact absurd c26 (by decide)
            · refine lv_iconst (v := 1) hx hb dX7_admits_77 (by decide) ?_
              refine lv_goto (tgt := 82) hx hb dX7_admits_78 (by decide) ?_
              refine va_put (D := D) (ci := 7) (v := .int 1) (ty := .boolean) (C := RX7) (T := TX7) (N := 41) hx hb hts hi7 tyX7 tyX7_ok nmX7 hown hK hP hD hS 0 rfl rfl 23 (by decide) (hts (.fieldLink RX7 130 "GuardedCallsModel" "trial" "Z") (by decide +kernel)) (fun _ h9 => h9) rfl (by decide +kernel) rfl rfl (Nat.le_of_ble_eq_true rfl) dX7_admits_82 (fun H locs hP hD hS => ?_)
              have hP : va_P D vwCl (mw cI a (upd g 23 1) d F) H := hP
              have hD : va_D A (mw cI a (upd g 23 1) d F) := hD
              refine lv_aload_n hx hb dX7_admits_85 rfl (lv_at hl 0 rfl) ?_
              refine lv_aload_n hx hb dX7_admits_86 rfl (lv_at hl 0 rfl) ?_
              refine va_get (D := D) (ci := 7) (v := .int 1) (C := RX7) (T := TX7) (N := 41) hx hb hts hi7 hown hK hP 0 rfl rfl 23 (by decide) (hts (.fieldLink RX7 130 "GuardedCallsModel" "trial" "Z") (by decide +kernel)) (fun _ h9 => h9) rfl dX7_admits_87 ?_
              refine lv_if_eq (tgt := 102) hx hb dX7_admits_90 (by decide) (fun c27 => ?_) (fun c27 => ?_)
              · exact absurd c27 (by decide)
              · refine lv_aload_n hx hb dX7_admits_93 rfl (lv_at hl 0 rfl) ?_
                refine va_get (D := D) (ci := 7) (v := .int ((g 20))) (C := RX7) (T := TX7) (N := 41) hx hb hts hi7 hown hK hP 0 rfl rfl 20 (by decide) (hts (.fieldLink RX7 115 "GuardedCallsModel" "trials" "I") (by decide +kernel)) (fun _ h9 => h9) rfl dX7_admits_94 ?_
                refine lv_iconst (v := 1) hx hb dX7_admits_97 (by decide) ?_
                refine lv_iadd hx hb dX7_admits_98 ?_
                refine lv_topi (fun x28 e28 => ?_)
                refine lv_goto (tgt := 106) hx hb dX7_admits_99 (by decide) ?_
                refine va_put (D := D) (ci := 7) (v := .int x28) (ty := .int) (C := RX7) (T := TX7) (N := 41) hx hb hts hi7 tyX7 tyX7_ok nmX7 hown hK hP hD hS 0 rfl rfl 20 (by decide) (hts (.fieldLink RX7 115 "GuardedCallsModel" "trials" "I") (by decide +kernel)) (fun _ h9 => h9) rfl (by decide +kernel) rfl rfl (Nat.le_of_ble_eq_true rfl) dX7_admits_106 (fun H locs hP hD hS => ?_)
                have hP : va_P D vwCl (mw cI a (upd (upd g 23 1) 20 x28) d F) H := hP
                have hD : va_D A (mw cI a (upd (upd g 23 1) 20 x28) d F) := hD
                refine lv_aload_n hx hb dX7_admits_109 rfl (lv_at hl 0 rfl) ?_
                refine lv_aload_n hx hb dX7_admits_110 rfl (lv_at hl 0 rfl) ?_
                refine va_get (D := D) (ci := 7) (v := .int ((g 1))) (C := RX7) (T := TX7) (N := 41) hx hb hts hi7 hown hK hP 0 rfl rfl 1 (by decide) (hts (.fieldLink RX7 102 "GuardedCallsModel" "clock" "I") (by decide +kernel)) (fun _ h9 => h9) rfl dX7_admits_111 ?_
                refine va_put (D := D) (ci := 7) (v := .int ((g 1))) (ty := .int) (C := RX7) (T := TX7) (N := 41) hx hb hts hi7 tyX7 tyX7_ok nmX7 hown hK hP hD hS 0 rfl rfl 24 (by decide) (hts (.fieldLink RX7 134 "GuardedCallsModel" "before" "I") (by decide +kernel)) (fun _ h9 => h9) rfl (by decide +kernel) rfl rfl (Nat.le_of_ble_eq_true rfl) dX7_admits_114 (fun H locs hP hD hS => ?_)
                have hP : va_P D vwCl (mw cI a (upd (upd (upd g 23 1) 20 x28) 24 ((g 1))) d F) H := hP
                have hD : va_D A (mw cI a (upd (upd (upd g 23 1) 20 x28) 24 ((g 1))) d F) := hD
                refine lv_iconst (v := 1) hx hb dX7_admits_117 (by decide) ?_
                exact W.zret (v := 1) hx hb hr (rfl) (fun t ht hW => ⟨⟨_, (upd (upd (upd g 23 1) 20 x28) 24 ((g 1)), d, F), rfl, ⟨Or.inr ⟨rfl, Or.inl ⟨rfl, c25⟩⟩, hI, rfl, rfl, rfl, rfl, rfl⟩, by rw [ht]; exact hP, hD⟩, hS.F ht⟩) hS.2.2 dX7_admits_118
          · refine lv_aload_n hx hb dX7_admits_61 rfl (lv_at hl 0 rfl) ?_
            refine lv_iconst (v := 1) hx hb dX7_admits_62 (by decide) ?_
            refine gc_vv (As := [.int 1]) (rest := []) (w0 := mw cI a g d F) (wc := mw cI a g d F) (wr := []) (wf := wfM cI a) ⟨hx, hb, hml, hown, hts⟩ hKK hok hP hD hS hA [0, 1, 2, 3, 4, 5, 6] [] rfl rfl (by decide) (s_X7_note l D cI a _ g d F 1 hI) (cwV 1 hts gX7_admits_X7_note rfl rfl rfl (by decide +kernel) ⟨Nat.le_of_ble_eq_true rfl, Nat.le_of_ble_eq_true rfl⟩) (va_recv hK hP (ci := 7) (q0 := 0) rfl rfl) rfl hl.1 rfl (Nat.le_of_ble_eq_true rfl) dX7_admits_63 ⟨Nat.le_of_ble_eq_true rfl, Nat.le_of_ble_eq_true rfl⟩ (fun u29 H locs hw29 hP hD hS => ?_)
            obtain ⟨g29, d29, F29⟩ := u29
            have hP : va_P D vwCl (mw cI a g29 d29 F29) H := hP
            have hD : va_D A (mw cI a g29 d29 F29) := hD
            refine lv_iconst (v := 0) hx hb dX7_admits_66 (by decide) ?_
            exact W.zret (v := 0) hx hb hr (rfl) (fun t ht hW => ⟨⟨_, (g29, d29, F29), rfl, ⟨Or.inl rfl, hw29.2.1, hw29.2.2.1, hw29.2.2.2.1, hw29.2.2.2.2.1, hw29.2.2.2.2.2.1, hw29.2.2.2.2.2.2.2.2.2⟩, by rw [ht]; exact hP, hD⟩, hS.F ht⟩) hS.2.2 dX7_admits_67
    · refine lv_aload_n hx hb dX7_admits_24 rfl (lv_at hl 0 rfl) ?_
      refine lv_iconst (v := 2) hx hb dX7_admits_25 (by decide) ?_
      refine gc_vv (As := [.int 2]) (rest := []) (w0 := mw cI a g d F) (wc := mw cI a g d F) (wr := []) (wf := wfM cI a) ⟨hx, hb, hml, hown, hts⟩ hKK hok hP hD hS hA [0, 1, 2, 3, 4, 5, 6] [] rfl rfl (by decide) (s_X7_become l D cI a _ g d F 2) (cwV 1 hts gX7_admits_X7_become rfl rfl rfl (by decide +kernel) ⟨Nat.le_of_ble_eq_true rfl, Nat.le_of_ble_eq_true rfl⟩) (va_recv hK hP (ci := 7) (q0 := 0) rfl rfl) rfl hl.1 rfl (Nat.le_of_ble_eq_true rfl) dX7_admits_26 ⟨Nat.le_of_ble_eq_true rfl, Nat.le_of_ble_eq_true rfl⟩ (fun u30 H locs hw30 hP hD hS => ?_)
      subst hw30
      have hP : va_P D vwCl (mw cI a (upd (upd (upd g 18 2) 21 0) 20 0) d F) H := hP
      have hD : va_D A (mw cI a (upd (upd (upd g 18 2) 21 0) 20 0) d F) := hD
      have hI31 : MI (upd (upd (upd g 18 2) 21 0) 20 0) d F := ⟨hI.1, hI.2.1, hI.2.2.1, hI.2.2.2.1, hI.2.2.2.2.1, M6_zero hI.2.2.2.1.2.1 hI.2.2.2.1.1.1, hI.2.2.2.2.2.2.1, hI.2.2.2.2.2.2.2.1, hI.2.2.2.2.2.2.2.2⟩
      refine lv_aload_n hx hb dX7_admits_29 rfl (lv_at hl 0 rfl) ?_
      refine lv_iconst (v := 3) hx hb dX7_admits_30 (by decide) ?_
      refine gc_vv (As := [.int 3]) (rest := []) (w0 := mw cI a (upd (upd (upd g 18 2) 21 0) 20 0) d F) (wc := mw cI a (upd (upd (upd g 18 2) 21 0) 20 0) d F) (wr := []) (wf := wfM cI a) ⟨hx, hb, hml, hown, hts⟩ hKK hok hP hD hS hA [0, 1, 2, 3, 4, 5, 6] [] rfl rfl (by decide) (s_X7_note l D cI a _ (upd (upd (upd g 18 2) 21 0) 20 0) d F 3 hI31) (cwV 1 hts gX7_admits_X7_note rfl rfl rfl (by decide +kernel) ⟨Nat.le_of_ble_eq_true rfl, Nat.le_of_ble_eq_true rfl⟩) (va_recv hK hP (ci := 7) (q0 := 0) rfl rfl) rfl hl.1 rfl (Nat.le_of_ble_eq_true rfl) dX7_admits_31 ⟨Nat.le_of_ble_eq_true rfl, Nat.le_of_ble_eq_true rfl⟩ (fun u32 H locs hw32 hP hD hS => ?_)
      obtain ⟨g32, d32, F32⟩ := u32
      have hP : va_P D vwCl (mw cI a g32 d32 F32) H := hP
      have hD : va_D A (mw cI a g32 d32 F32) := hD
      refine lv_aload_n hx hb dX7_admits_34 rfl (lv_at hl 0 rfl) ?_
      refine va_get (D := D) (ci := 7) (v := .int ((g32 18))) (C := RX7) (T := TX7) (N := 41) hx hb hts hi7 hown hK hP 0 rfl rfl 18 (by decide) (hts (.fieldLink RX7 109 "GuardedCallsModel" "state" "I") (by decide +kernel)) (fun _ h9 => h9) rfl dX7_admits_35 ?_
      refine lv_iconst (v := 1) hx hb dX7_admits_38 (by decide) ?_
      refine lv_icmp_eq (tgt := 61) hx hb dX7_admits_39 (by decide) (fun c33 => ?_) (fun c33 => ?_)
      · refine lv_aload_n hx hb dX7_admits_61 rfl (lv_at hl 0 rfl) ?_
        refine lv_iconst (v := 1) hx hb dX7_admits_62 (by decide) ?_
        refine gc_vv (As := [.int 1]) (rest := []) (w0 := mw cI a g32 d32 F32) (wc := mw cI a g32 d32 F32) (wr := []) (wf := wfM cI a) ⟨hx, hb, hml, hown, hts⟩ hKK hok hP hD hS hA [0, 1, 2, 3, 4, 5, 6] [] rfl rfl (by decide) (s_X7_note l D cI a _ g32 d32 F32 1 hw32.2.1) (cwV 1 hts gX7_admits_X7_note rfl rfl rfl (by decide +kernel) ⟨Nat.le_of_ble_eq_true rfl, Nat.le_of_ble_eq_true rfl⟩) (va_recv hK hP (ci := 7) (q0 := 0) rfl rfl) rfl hl.1 rfl (Nat.le_of_ble_eq_true rfl) dX7_admits_63 ⟨Nat.le_of_ble_eq_true rfl, Nat.le_of_ble_eq_true rfl⟩ (fun u34 H locs hw34 hP hD hS => ?_)
        obtain ⟨g34, d34, F34⟩ := u34
        have hP : va_P D vwCl (mw cI a g34 d34 F34) H := hP
        have hD : va_D A (mw cI a g34 d34 F34) := hD
        refine lv_iconst (v := 0) hx hb dX7_admits_66 (by decide) ?_
        exact W.zret (v := 0) hx hb hr (rfl) (fun t ht hW => ⟨⟨_, (g34, d34, F34), rfl, ⟨Or.inl rfl, hw34.2.1, (hw34.2.2.1.trans hw32.2.2.1), (hw34.2.2.2.1.trans hw32.2.2.2.1), (hw34.2.2.2.2.1.trans hw32.2.2.2.2.1), (hw34.2.2.2.2.2.1.trans hw32.2.2.2.2.2.1), (hw34.2.2.2.2.2.2.2.2.2.trans hw32.2.2.2.2.2.2.2.2.2)⟩, by rw [ht]; exact hP, hD⟩, hS.F ht⟩) hS.2.2 dX7_admits_67
      · refine lv_aload_n hx hb dX7_admits_42 rfl (lv_at hl 0 rfl) ?_
        refine va_get (D := D) (ci := 7) (v := .int ((g32 18))) (C := RX7) (T := TX7) (N := 41) hx hb hts hi7 hown hK hP 0 rfl rfl 18 (by decide) (hts (.fieldLink RX7 109 "GuardedCallsModel" "state" "I") (by decide +kernel)) (fun _ h9 => h9) rfl dX7_admits_43 ?_
        refine lv_iconst (v := 2) hx hb dX7_admits_46 (by decide) ?_
        refine lv_icmp_ne (tgt := 68) hx hb dX7_admits_47 (by decide) (fun c35 => ?_) (fun c35 => ?_)
        · refine lv_aload_n hx hb dX7_admits_68 rfl (lv_at hl 0 rfl) ?_
          refine lv_aload_n hx hb dX7_admits_69 rfl (lv_at hl 0 rfl) ?_
          refine va_get (D := D) (ci := 7) (v := .int ((g32 18))) (C := RX7) (T := TX7) (N := 41) hx hb hts hi7 hown hK hP 0 rfl rfl 18 (by decide) (hts (.fieldLink RX7 109 "GuardedCallsModel" "state" "I") (by decide +kernel)) (fun _ h9 => h9) rfl dX7_admits_70 ?_
          refine lv_iconst (v := 2) hx hb dX7_admits_73 (by decide) ?_
          refine lv_icmp_ne (tgt := 81) hx hb dX7_admits_74 (by decide) (fun c36 => ?_) (fun c36 => ?_)
          · refine lv_iconst (v := 0) hx hb dX7_admits_81 (by decide) ?_
            refine va_put (D := D) (ci := 7) (v := .int 0) (ty := .boolean) (C := RX7) (T := TX7) (N := 41) hx hb hts hi7 tyX7 tyX7_ok nmX7 hown hK hP hD hS 0 rfl rfl 23 (by decide) (hts (.fieldLink RX7 130 "GuardedCallsModel" "trial" "Z") (by decide +kernel)) (fun _ h9 => h9) rfl (by decide +kernel) rfl rfl (Nat.le_of_ble_eq_true rfl) dX7_admits_82 (fun H locs hP hD hS => ?_)
            have hP : va_P D vwCl (mw cI a (upd g32 23 0) d32 F32) H := hP
            have hD : va_D A (mw cI a (upd g32 23 0) d32 F32) := hD
            refine lv_aload_n hx hb dX7_admits_85 rfl (lv_at hl 0 rfl) ?_
            refine lv_aload_n hx hb dX7_admits_86 rfl (lv_at hl 0 rfl) ?_
            refine va_get (D := D) (ci := 7) (v := .int 0) (C := RX7) (T := TX7) (N := 41) hx hb hts hi7 hown hK hP 0 rfl rfl 23 (by decide) (hts (.fieldLink RX7 130 "GuardedCallsModel" "trial" "Z") (by decide +kernel)) (fun _ h9 => h9) rfl dX7_admits_87 ?_
            refine lv_if_eq (tgt := 102) hx hb dX7_admits_90 (by decide) (fun c37 => ?_) (fun c37 => ?_)
            · refine lv_aload_n hx hb dX7_admits_102 rfl (lv_at hl 0 rfl) ?_
              refine va_get (D := D) (ci := 7) (v := .int ((g32 20))) (C := RX7) (T := TX7) (N := 41) hx hb hts hi7 hown hK hP 0 rfl rfl 20 (by decide) (hts (.fieldLink RX7 115 "GuardedCallsModel" "trials" "I") (by decide +kernel)) (fun _ h9 => h9) rfl dX7_admits_103 ?_
              refine va_put (D := D) (ci := 7) (v := .int ((g32 20))) (ty := .int) (C := RX7) (T := TX7) (N := 41) hx hb hts hi7 tyX7 tyX7_ok nmX7 hown hK hP hD hS 0 rfl rfl 20 (by decide) (hts (.fieldLink RX7 115 "GuardedCallsModel" "trials" "I") (by decide +kernel)) (fun _ h9 => h9) rfl (by decide +kernel) rfl rfl (Nat.le_of_ble_eq_true rfl) dX7_admits_106 (fun H locs hP hD hS => ?_)
              have hP : va_P D vwCl (mw cI a (upd (upd g32 23 0) 20 ((g32 20))) d32 F32) H := hP
              have hD : va_D A (mw cI a (upd (upd g32 23 0) 20 ((g32 20))) d32 F32) := hD
              refine lv_aload_n hx hb dX7_admits_109 rfl (lv_at hl 0 rfl) ?_
              refine lv_aload_n hx hb dX7_admits_110 rfl (lv_at hl 0 rfl) ?_
              refine va_get (D := D) (ci := 7) (v := .int ((g32 1))) (C := RX7) (T := TX7) (N := 41) hx hb hts hi7 hown hK hP 0 rfl rfl 1 (by decide) (hts (.fieldLink RX7 102 "GuardedCallsModel" "clock" "I") (by decide +kernel)) (fun _ h9 => h9) rfl dX7_admits_111 ?_
              refine va_put (D := D) (ci := 7) (v := .int ((g32 1))) (ty := .int) (C := RX7) (T := TX7) (N := 41) hx hb hts hi7 tyX7 tyX7_ok nmX7 hown hK hP hD hS 0 rfl rfl 24 (by decide) (hts (.fieldLink RX7 134 "GuardedCallsModel" "before" "I") (by decide +kernel)) (fun _ h9 => h9) rfl (by decide +kernel) rfl rfl (Nat.le_of_ble_eq_true rfl) dX7_admits_114 (fun H locs hP hD hS => ?_)
              have hP : va_P D vwCl (mw cI a (upd (upd (upd g32 23 0) 20 ((g32 20))) 24 ((g32 1))) d32 F32) H := hP
              have hD : va_D A (mw cI a (upd (upd (upd g32 23 0) 20 ((g32 20))) 24 ((g32 1))) d32 F32) := hD
              refine lv_iconst (v := 1) hx hb dX7_admits_117 (by decide) ?_
              exact W.zret (v := 1) hx hb hr (rfl) (fun t ht hW => ⟨⟨_, (upd (upd (upd g32 23 0) 20 ((g32 20))) 24 ((g32 1)), d32, F32), rfl, ⟨Or.inr ⟨rfl, Or.inr ⟨rfl, c36⟩⟩, hw32.2.1, hw32.2.2.1, hw32.2.2.2.1, hw32.2.2.2.2.1, hw32.2.2.2.2.2.1, hw32.2.2.2.2.2.2.2.2.2⟩, by rw [ht]; exact hP, hD⟩, hS.F ht⟩) hS.2.2 dX7_admits_118
            · exact absurd c37 (by decide)
          · refine lv_iconst (v := 1) hx hb dX7_admits_77 (by decide) ?_
            refine lv_goto (tgt := 82) hx hb dX7_admits_78 (by decide) ?_
            refine va_put (D := D) (ci := 7) (v := .int 1) (ty := .boolean) (C := RX7) (T := TX7) (N := 41) hx hb hts hi7 tyX7 tyX7_ok nmX7 hown hK hP hD hS 0 rfl rfl 23 (by decide) (hts (.fieldLink RX7 130 "GuardedCallsModel" "trial" "Z") (by decide +kernel)) (fun _ h9 => h9) rfl (by decide +kernel) rfl rfl (Nat.le_of_ble_eq_true rfl) dX7_admits_82 (fun H locs hP hD hS => ?_)
            have hP : va_P D vwCl (mw cI a (upd g32 23 1) d32 F32) H := hP
            have hD : va_D A (mw cI a (upd g32 23 1) d32 F32) := hD
            refine lv_aload_n hx hb dX7_admits_85 rfl (lv_at hl 0 rfl) ?_
            refine lv_aload_n hx hb dX7_admits_86 rfl (lv_at hl 0 rfl) ?_
            refine va_get (D := D) (ci := 7) (v := .int 1) (C := RX7) (T := TX7) (N := 41) hx hb hts hi7 hown hK hP 0 rfl rfl 23 (by decide) (hts (.fieldLink RX7 130 "GuardedCallsModel" "trial" "Z") (by decide +kernel)) (fun _ h9 => h9) rfl dX7_admits_87 ?_
            refine lv_if_eq (tgt := 102) hx hb dX7_admits_90 (by decide) (fun c38 => ?_) (fun c38 => ?_)
            · exact absurd c38 (by decide)
            · refine lv_aload_n hx hb dX7_admits_93 rfl (lv_at hl 0 rfl) ?_
              refine va_get (D := D) (ci := 7) (v := .int ((g32 20))) (C := RX7) (T := TX7) (N := 41) hx hb hts hi7 hown hK hP 0 rfl rfl 20 (by decide) (hts (.fieldLink RX7 115 "GuardedCallsModel" "trials" "I") (by decide +kernel)) (fun _ h9 => h9) rfl dX7_admits_94 ?_
              refine lv_iconst (v := 1) hx hb dX7_admits_97 (by decide) ?_
              refine lv_iadd hx hb dX7_admits_98 ?_
              refine lv_topi (fun x39 e39 => ?_)
              refine lv_goto (tgt := 106) hx hb dX7_admits_99 (by decide) ?_
              refine va_put (D := D) (ci := 7) (v := .int x39) (ty := .int) (C := RX7) (T := TX7) (N := 41) hx hb hts hi7 tyX7 tyX7_ok nmX7 hown hK hP hD hS 0 rfl rfl 20 (by decide) (hts (.fieldLink RX7 115 "GuardedCallsModel" "trials" "I") (by decide +kernel)) (fun _ h9 => h9) rfl (by decide +kernel) rfl rfl (Nat.le_of_ble_eq_true rfl) dX7_admits_106 (fun H locs hP hD hS => ?_)
              have hP : va_P D vwCl (mw cI a (upd (upd g32 23 1) 20 x39) d32 F32) H := hP
              have hD : va_D A (mw cI a (upd (upd g32 23 1) 20 x39) d32 F32) := hD
              refine lv_aload_n hx hb dX7_admits_109 rfl (lv_at hl 0 rfl) ?_
              refine lv_aload_n hx hb dX7_admits_110 rfl (lv_at hl 0 rfl) ?_
              refine va_get (D := D) (ci := 7) (v := .int ((g32 1))) (C := RX7) (T := TX7) (N := 41) hx hb hts hi7 hown hK hP 0 rfl rfl 1 (by decide) (hts (.fieldLink RX7 102 "GuardedCallsModel" "clock" "I") (by decide +kernel)) (fun _ h9 => h9) rfl dX7_admits_111 ?_
              refine va_put (D := D) (ci := 7) (v := .int ((g32 1))) (ty := .int) (C := RX7) (T := TX7) (N := 41) hx hb hts hi7 tyX7 tyX7_ok nmX7 hown hK hP hD hS 0 rfl rfl 24 (by decide) (hts (.fieldLink RX7 134 "GuardedCallsModel" "before" "I") (by decide +kernel)) (fun _ h9 => h9) rfl (by decide +kernel) rfl rfl (Nat.le_of_ble_eq_true rfl) dX7_admits_114 (fun H locs hP hD hS => ?_)
              have hP : va_P D vwCl (mw cI a (upd (upd (upd g32 23 1) 20 x39) 24 ((g32 1))) d32 F32) H := hP
              have hD : va_D A (mw cI a (upd (upd (upd g32 23 1) 20 x39) 24 ((g32 1))) d32 F32) := hD
              refine lv_iconst (v := 1) hx hb dX7_admits_117 (by decide) ?_
              exact W.zret (v := 1) hx hb hr (rfl) (fun t ht hW => ⟨⟨_, (upd (upd (upd g32 23 1) 20 x39) 24 ((g32 1)), d32, F32), rfl, ⟨Or.inr ⟨rfl, Or.inl ⟨rfl, c36⟩⟩, hw32.2.1, hw32.2.2.1, hw32.2.2.2.1, hw32.2.2.2.2.1, hw32.2.2.2.2.2.1, hw32.2.2.2.2.2.2.2.2.2⟩, by rw [ht]; exact hP, hD⟩, hS.F ht⟩) hS.2.2 dX7_admits_118
        · refine lv_aload_n hx hb dX7_admits_50 rfl (lv_at hl 0 rfl) ?_
          refine va_get (D := D) (ci := 7) (v := .int ((g32 20))) (C := RX7) (T := TX7) (N := 41) hx hb hts hi7 hown hK hP 0 rfl rfl 20 (by decide) (hts (.fieldLink RX7 115 "GuardedCallsModel" "trials" "I") (by decide +kernel)) (fun _ h9 => h9) rfl dX7_admits_51 ?_
          refine lv_aload_n hx hb dX7_admits_54 rfl (lv_at hl 0 rfl) ?_
          refine va_get (D := D) (ci := 7) (v := .int ((g32 14))) (C := RX7) (T := TX7) (N := 41) hx hb hts hi7 hown hK hP 0 rfl rfl 14 (by decide) (hts (.fieldLink RX7 32 "GuardedCallsModel" "most" "I") (by decide +kernel)) (fun _ h9 => h9) rfl dX7_admits_55 ?_
          refine lv_icmp_lt (tgt := 68) hx hb dX7_admits_58 (by decide) (fun c40 => ?_) (fun c40 => ?_)
          · refine lv_aload_n hx hb dX7_admits_68 rfl (lv_at hl 0 rfl) ?_
            refine lv_aload_n hx hb dX7_admits_69 rfl (lv_at hl 0 rfl) ?_
            refine va_get (D := D) (ci := 7) (v := .int ((g32 18))) (C := RX7) (T := TX7) (N := 41) hx hb hts hi7 hown hK hP 0 rfl rfl 18 (by decide) (hts (.fieldLink RX7 109 "GuardedCallsModel" "state" "I") (by decide +kernel)) (fun _ h9 => h9) rfl dX7_admits_70 ?_
            refine lv_iconst (v := 2) hx hb dX7_admits_73 (by decide) ?_
            refine lv_icmp_ne (tgt := 81) hx hb dX7_admits_74 (by decide) (fun c41 => ?_) (fun c41 => ?_)
            · refine lv_iconst (v := 0) hx hb dX7_admits_81 (by decide) ?_
              refine va_put (D := D) (ci := 7) (v := .int 0) (ty := .boolean) (C := RX7) (T := TX7) (N := 41) hx hb hts hi7 tyX7 tyX7_ok nmX7 hown hK hP hD hS 0 rfl rfl 23 (by decide) (hts (.fieldLink RX7 130 "GuardedCallsModel" "trial" "Z") (by decide +kernel)) (fun _ h9 => h9) rfl (by decide +kernel) rfl rfl (Nat.le_of_ble_eq_true rfl) dX7_admits_82 (fun H locs hP hD hS => ?_)
              have hP : va_P D vwCl (mw cI a (upd g32 23 0) d32 F32) H := hP
              have hD : va_D A (mw cI a (upd g32 23 0) d32 F32) := hD
              refine lv_aload_n hx hb dX7_admits_85 rfl (lv_at hl 0 rfl) ?_
              refine lv_aload_n hx hb dX7_admits_86 rfl (lv_at hl 0 rfl) ?_
              refine va_get (D := D) (ci := 7) (v := .int 0) (C := RX7) (T := TX7) (N := 41) hx hb hts hi7 hown hK hP 0 rfl rfl 23 (by decide) (hts (.fieldLink RX7 130 "GuardedCallsModel" "trial" "Z") (by decide +kernel)) (fun _ h9 => h9) rfl dX7_admits_87 ?_
              refine lv_if_eq (tgt := 102) hx hb dX7_admits_90 (by decide) (fun c42 => ?_) (fun c42 => ?_)
              · refine lv_aload_n hx hb dX7_admits_102 rfl (lv_at hl 0 rfl) ?_
                refine va_get (D := D) (ci := 7) (v := .int ((g32 20))) (C := RX7) (T := TX7) (N := 41) hx hb hts hi7 hown hK hP 0 rfl rfl 20 (by decide) (hts (.fieldLink RX7 115 "GuardedCallsModel" "trials" "I") (by decide +kernel)) (fun _ h9 => h9) rfl dX7_admits_103 ?_
                refine va_put (D := D) (ci := 7) (v := .int ((g32 20))) (ty := .int) (C := RX7) (T := TX7) (N := 41) hx hb hts hi7 tyX7 tyX7_ok nmX7 hown hK hP hD hS 0 rfl rfl 20 (by decide) (hts (.fieldLink RX7 115 "GuardedCallsModel" "trials" "I") (by decide +kernel)) (fun _ h9 => h9) rfl (by decide +kernel) rfl rfl (Nat.le_of_ble_eq_true rfl) dX7_admits_106 (fun H locs hP hD hS => ?_)
                have hP : va_P D vwCl (mw cI a (upd (upd g32 23 0) 20 ((g32 20))) d32 F32) H := hP
                have hD : va_D A (mw cI a (upd (upd g32 23 0) 20 ((g32 20))) d32 F32) := hD
                refine lv_aload_n hx hb dX7_admits_109 rfl (lv_at hl 0 rfl) ?_
                refine lv_aload_n hx hb dX7_admits_110 rfl (lv_at hl 0 rfl) ?_
                refine va_get (D := D) (ci := 7) (v := .int ((g32 1))) (C := RX7) (T := TX7) (N := 41) hx hb hts hi7 hown hK hP 0 rfl rfl 1 (by decide) (hts (.fieldLink RX7 102 "GuardedCallsModel" "clock" "I") (by decide +kernel)) (fun _ h9 => h9) rfl dX7_admits_111 ?_
                refine va_put (D := D) (ci := 7) (v := .int ((g32 1))) (ty := .int) (C := RX7) (T := TX7) (N := 41) hx hb hts hi7 tyX7 tyX7_ok nmX7 hown hK hP hD hS 0 rfl rfl 24 (by decide) (hts (.fieldLink RX7 134 "GuardedCallsModel" "before" "I") (by decide +kernel)) (fun _ h9 => h9) rfl (by decide +kernel) rfl rfl (Nat.le_of_ble_eq_true rfl) dX7_admits_114 (fun H locs hP hD hS => ?_)
                have hP : va_P D vwCl (mw cI a (upd (upd (upd g32 23 0) 20 ((g32 20))) 24 ((g32 1))) d32 F32) H := hP
                have hD : va_D A (mw cI a (upd (upd (upd g32 23 0) 20 ((g32 20))) 24 ((g32 1))) d32 F32) := hD
                refine lv_iconst (v := 1) hx hb dX7_admits_117 (by decide) ?_
                exact W.zret (v := 1) hx hb hr (rfl) (fun t ht hW => ⟨⟨_, (upd (upd (upd g32 23 0) 20 ((g32 20))) 24 ((g32 1)), d32, F32), rfl, ⟨Or.inr ⟨rfl, Or.inr ⟨rfl, c41⟩⟩, hw32.2.1, hw32.2.2.1, hw32.2.2.2.1, hw32.2.2.2.2.1, hw32.2.2.2.2.2.1, hw32.2.2.2.2.2.2.2.2.2⟩, by rw [ht]; exact hP, hD⟩, hS.F ht⟩) hS.2.2 dX7_admits_118
              · exact absurd c42 (by decide)
            · refine lv_iconst (v := 1) hx hb dX7_admits_77 (by decide) ?_
              refine lv_goto (tgt := 82) hx hb dX7_admits_78 (by decide) ?_
              refine va_put (D := D) (ci := 7) (v := .int 1) (ty := .boolean) (C := RX7) (T := TX7) (N := 41) hx hb hts hi7 tyX7 tyX7_ok nmX7 hown hK hP hD hS 0 rfl rfl 23 (by decide) (hts (.fieldLink RX7 130 "GuardedCallsModel" "trial" "Z") (by decide +kernel)) (fun _ h9 => h9) rfl (by decide +kernel) rfl rfl (Nat.le_of_ble_eq_true rfl) dX7_admits_82 (fun H locs hP hD hS => ?_)
              have hP : va_P D vwCl (mw cI a (upd g32 23 1) d32 F32) H := hP
              have hD : va_D A (mw cI a (upd g32 23 1) d32 F32) := hD
              refine lv_aload_n hx hb dX7_admits_85 rfl (lv_at hl 0 rfl) ?_
              refine lv_aload_n hx hb dX7_admits_86 rfl (lv_at hl 0 rfl) ?_
              refine va_get (D := D) (ci := 7) (v := .int 1) (C := RX7) (T := TX7) (N := 41) hx hb hts hi7 hown hK hP 0 rfl rfl 23 (by decide) (hts (.fieldLink RX7 130 "GuardedCallsModel" "trial" "Z") (by decide +kernel)) (fun _ h9 => h9) rfl dX7_admits_87 ?_
              refine lv_if_eq (tgt := 102) hx hb dX7_admits_90 (by decide) (fun c43 => ?_) (fun c43 => ?_)
              · exact absurd c43 (by decide)
              · refine lv_aload_n hx hb dX7_admits_93 rfl (lv_at hl 0 rfl) ?_
                refine va_get (D := D) (ci := 7) (v := .int ((g32 20))) (C := RX7) (T := TX7) (N := 41) hx hb hts hi7 hown hK hP 0 rfl rfl 20 (by decide) (hts (.fieldLink RX7 115 "GuardedCallsModel" "trials" "I") (by decide +kernel)) (fun _ h9 => h9) rfl dX7_admits_94 ?_
                refine lv_iconst (v := 1) hx hb dX7_admits_97 (by decide) ?_
                refine lv_iadd hx hb dX7_admits_98 ?_
                refine lv_topi (fun x44 e44 => ?_)
                refine lv_goto (tgt := 106) hx hb dX7_admits_99 (by decide) ?_
                refine va_put (D := D) (ci := 7) (v := .int x44) (ty := .int) (C := RX7) (T := TX7) (N := 41) hx hb hts hi7 tyX7 tyX7_ok nmX7 hown hK hP hD hS 0 rfl rfl 20 (by decide) (hts (.fieldLink RX7 115 "GuardedCallsModel" "trials" "I") (by decide +kernel)) (fun _ h9 => h9) rfl (by decide +kernel) rfl rfl (Nat.le_of_ble_eq_true rfl) dX7_admits_106 (fun H locs hP hD hS => ?_)
                have hP : va_P D vwCl (mw cI a (upd (upd g32 23 1) 20 x44) d32 F32) H := hP
                have hD : va_D A (mw cI a (upd (upd g32 23 1) 20 x44) d32 F32) := hD
                refine lv_aload_n hx hb dX7_admits_109 rfl (lv_at hl 0 rfl) ?_
                refine lv_aload_n hx hb dX7_admits_110 rfl (lv_at hl 0 rfl) ?_
                refine va_get (D := D) (ci := 7) (v := .int ((g32 1))) (C := RX7) (T := TX7) (N := 41) hx hb hts hi7 hown hK hP 0 rfl rfl 1 (by decide) (hts (.fieldLink RX7 102 "GuardedCallsModel" "clock" "I") (by decide +kernel)) (fun _ h9 => h9) rfl dX7_admits_111 ?_
                refine va_put (D := D) (ci := 7) (v := .int ((g32 1))) (ty := .int) (C := RX7) (T := TX7) (N := 41) hx hb hts hi7 tyX7 tyX7_ok nmX7 hown hK hP hD hS 0 rfl rfl 24 (by decide) (hts (.fieldLink RX7 134 "GuardedCallsModel" "before" "I") (by decide +kernel)) (fun _ h9 => h9) rfl (by decide +kernel) rfl rfl (Nat.le_of_ble_eq_true rfl) dX7_admits_114 (fun H locs hP hD hS => ?_)
                have hP : va_P D vwCl (mw cI a (upd (upd (upd g32 23 1) 20 x44) 24 ((g32 1))) d32 F32) H := hP
                have hD : va_D A (mw cI a (upd (upd (upd g32 23 1) 20 x44) 24 ((g32 1))) d32 F32) := hD
                refine lv_iconst (v := 1) hx hb dX7_admits_117 (by decide) ?_
                exact W.zret (v := 1) hx hb hr (rfl) (fun t ht hW => ⟨⟨_, (upd (upd (upd g32 23 1) 20 x44) 24 ((g32 1)), d32, F32), rfl, ⟨Or.inr ⟨rfl, Or.inl ⟨rfl, c41⟩⟩, hw32.2.1, hw32.2.2.1, hw32.2.2.2.1, hw32.2.2.2.2.1, hw32.2.2.2.2.2.1, hw32.2.2.2.2.2.2.2.2.2⟩, by rw [ht]; exact hP, hD⟩, hS.F ht⟩) hS.2.2 dX7_admits_118
          · refine lv_aload_n hx hb dX7_admits_61 rfl (lv_at hl 0 rfl) ?_
            refine lv_iconst (v := 1) hx hb dX7_admits_62 (by decide) ?_
            refine gc_vv (As := [.int 1]) (rest := []) (w0 := mw cI a g32 d32 F32) (wc := mw cI a g32 d32 F32) (wr := []) (wf := wfM cI a) ⟨hx, hb, hml, hown, hts⟩ hKK hok hP hD hS hA [0, 1, 2, 3, 4, 5, 6] [] rfl rfl (by decide) (s_X7_note l D cI a _ g32 d32 F32 1 hw32.2.1) (cwV 1 hts gX7_admits_X7_note rfl rfl rfl (by decide +kernel) ⟨Nat.le_of_ble_eq_true rfl, Nat.le_of_ble_eq_true rfl⟩) (va_recv hK hP (ci := 7) (q0 := 0) rfl rfl) rfl hl.1 rfl (Nat.le_of_ble_eq_true rfl) dX7_admits_63 ⟨Nat.le_of_ble_eq_true rfl, Nat.le_of_ble_eq_true rfl⟩ (fun u45 H locs hw45 hP hD hS => ?_)
            obtain ⟨g45, d45, F45⟩ := u45
            have hP : va_P D vwCl (mw cI a g45 d45 F45) H := hP
            have hD : va_D A (mw cI a g45 d45 F45) := hD
            refine lv_iconst (v := 0) hx hb dX7_admits_66 (by decide) ?_
            exact W.zret (v := 0) hx hb hr (rfl) (fun t ht hW => ⟨⟨_, (g45, d45, F45), rfl, ⟨Or.inl rfl, hw45.2.1, (hw45.2.2.1.trans hw32.2.2.1), (hw45.2.2.2.1.trans hw32.2.2.2.1), (hw45.2.2.2.2.1.trans hw32.2.2.2.2.1), (hw45.2.2.2.2.2.1.trans hw32.2.2.2.2.2.1), (hw45.2.2.2.2.2.2.2.2.2.trans hw32.2.2.2.2.2.2.2.2.2)⟩, by rw [ht]; exact hP, hD⟩, hS.F ht⟩) hS.2.2 dX7_admits_67
