set_option maxHeartbeats 4000000 in
set_option maxRecDepth 100000 in
theorem s_X7_call (l : Launch) (D : va_G) (cI : ClassId) (a : Nat → Nat) (sz : Nat) (g : Nat → Int32) (d : Nat → UInt64) (F : Nat → Nat → Int32) (hI : MI g d F) : Met l yX7_call wsX7_call ({ frames := 4, cells := 0, slots := 0, locals := 86 }) (gP (KM D cI) D (mw cI a g d F) sz [.ref (a 0)]) (va_Qi (fun (r : Int32) (u : SS) => (True) ∧ MI u.1 u.2.1 u.2.2 ∧ u.1 3 = g 3 ∧ u.1 26 = g 26 ∧ u.2.2 0 = F 0) (gB D (wfM cI a) (va_A (mw cI a g d F) sz)) (va_A (mw cI a g d F) sz)) 0 0 (va_A (mw cI a g d F) sz) := by
  refine Met.ofW (cc := cX7_call) (maxL := 5) (ret := (some .int)) (by decide) rfl ?_
  intro p e s m args below meth c s₁ B hml hv
  obtain ⟨rfl, hsz, hP, hD0, hKK⟩ := hv
  have hx := B.exec
  have hb := B.bytes
  have hr := B.returns
  have hts := atoms_spec (ws := wsX7_call) B.pre
  have hown : s.vm.findClass RX7 = some m.cls := findClass_of_methodNamed B.named
  have hlocks := B.notSynchronized
  subst hsz
  have hK := hKK.1
  have hok := KM_ok D cI
  have hD := hD0.self (sz := s.heap.size)
  generalize hAe : va_A (mw cI a g d F) s.heap.size = A at hD ⊢
  have hi7 : ∀ w ∈ wsX70, w ∈ wsX7_call := fun w h => List.mem_cons_of_mem _ (List.mem_append_right _ h)
  have hA : ∀ q : Nat, s.heap.size ≤ q → A q := fun q h => by rw [← hAe]; exact Or.inr h
  have hS : va_S A s.heap s.heap [] := va_S.rf
  have hP : va_P D vwCl (mw cI a g d F) s.heap := hP
  have hl := lv_entry ([.ref ((a 0))]) (n := 5) (Nat.le_of_ble_eq_true rfl)
  rw [lg_entry_eq]
  generalize (lg_sl ([.ref ((a 0))]) ++ List.replicate (5 - (lg_sl ([.ref ((a 0))])).length) Slot.unset).toArray = ls at hl ⊢
  have hl : lv_has ls 5 [(0, .ref ((a 0)))] := hl
  refine lv_aload_n hx hb dX7_call_0 rfl (lv_at hl 0 rfl) ?_
  refine va_get (D := D) (ci := 7) (v := .int ((g 3))) (C := RX7) (T := TX7) (N := 41) hx hb hts hi7 hown hK hP 0 rfl rfl 3 (by decide) (hts (.fieldLink RX7 174 "GuardedCallsModel" "height" "I") (by decide +kernel)) (fun _ h9 => h9) rfl dX7_call_1 ?_
  refine lv_iconst (v := 1) hx hb dX7_call_4 (by decide) ?_
  refine lv_isub hx hb dX7_call_5 ?_
  refine lv_topi (fun x1 e1 => ?_)
  refine lv_istore_n (lv' := [(1, .int x1), (0, .ref ((a 0)))]) hx hb dX7_call_6 rfl hl (by decide) rfl (fun ls hl => ?_)
  refine lv_iconst (v := (-1)) hx hb dX7_call_7 (by decide) ?_
  refine lv_istore_n (lv' := [(2, .int ((-1))), (1, .int x1), (0, .ref ((a 0)))]) hx hb dX7_call_8 rfl hl (by decide) rfl (fun ls hl => ?_)
  refine gl_loop (σ := Int32 × Int32 × (Nat → Int32) × (Nat → UInt64) × (Nat → Nat → Int32)) (μ := fun q => match q with | (y2_1, y2_2, g2, d2, F2) => Jm y2_1 y2_2 g2 (F2 0)) (Inv := fun q H locs ls => match q with | (y2_1, y2_2, g2, d2, F2) => JI y2_1 y2_2 g2 (F2 0) ∧ MI g2 d2 F2 ∧ g2 3 = g 3 ∧ g2 26 = g 26 ∧ F2 0 = F 0 ∧ va_P D vwCl (mw cI a g2 d2 F2) H ∧ va_D A (mw cI a g2 d2 F2) ∧ va_S A s.heap H locs ∧ lv_has ls 5 [(2, .int y2_2), (1, .int y2_1), (0, .ref ((a 0)))]) (fun q H locs ls hv ih2 => ?_) (x1, ((-1)), g, d, F) _ _ _ ⟨J_start hI.2.2.2.2.2.2.1 e1, hI, rfl, rfl, rfl, hP, hD, hS, lv_sub hl [0, 1, 2] rfl⟩
  obtain ⟨y2_1, y2_2, g2, d2, F2⟩ := q
  obtain ⟨hq2_0, hq2_1, hq2_2, hq2_3, hq2_4, hP, hD, hS, hl⟩ := hv
  refine lv_iload_n hx hb dX7_call_9 rfl (lv_at hl 0 rfl) ?_
  refine lv_if_lt (tgt := 21) hx hb dX7_call_10 (by decide) (fun c3 => ?_) (fun c3 => ?_)
  · refine lv_iload_n hx hb dX7_call_21 rfl (lv_at hl 0 rfl) ?_
    refine lv_if_ge (tgt := 39) hx hb dX7_call_22 (by decide) (fun c4 => ?_) (fun c4 => ?_)
    · exact absurd c4 (lt_nle c3)
    · refine lv_iload_n hx hb dX7_call_25 rfl (lv_at hl 1 rfl) ?_
      refine lv_if_ge (tgt := 39) hx hb dX7_call_26 (by decide) (fun c5 => ?_) (fun c5 => ?_)
      · refine lv_iload_n hx hb dX7_call_39 rfl (lv_at hl 0 rfl) ?_
        refine lv_if_ge (tgt := 81) hx hb dX7_call_40 (by decide) (fun c6 => ?_) (fun c6 => ?_)
        · exact absurd c6 (lt_nle c3)
        · refine lv_aload_n hx hb dX7_call_43 rfl (lv_at hl 2 rfl) ?_
          refine lv_aload_n hx hb dX7_call_44 rfl (lv_at hl 2 rfl) ?_
          refine va_get (D := D) (ci := 7) (v := .ref ((a 1))) (C := RX7) (T := TX7) (N := 41) hx hb hts hi7 hown hK hP 0 rfl rfl 4 (by decide) (hts (.fieldLink RX7 7 "GuardedCallsModel" "stack" "[I") (by decide +kernel)) (fun _ h9 => h9) rfl dX7_call_45 ?_
          refine lv_iload_n hx hb dX7_call_48 rfl (lv_at hl 1 rfl) ?_
          refine va_iald (D := D) hx hb hK hP 1 0 (f := (F2 0)) (n := 5) rfl rfl (J_ix hq2_0 hq2_1.2.2.2.2.2.2.1 (Or.inl ⟨c3, c5⟩)) dX7_call_49 ?_
          refine lv_topi (fun x7 e7 => ?_)
          refine gc_vi (As := [.int x7]) (rest := []) (w0 := mw cI a g2 d2 F2) (wc := mw cI a g2 d2 F2) (wr := []) (wf := wfM cI a) ⟨hx, hb, hml, hown, hts⟩ hKK hok hP hD hS hA [0, 1, 2, 3, 4, 5, 6] [] rfl rfl (by decide) (s_X7_enter l D cI a _ g2 d2 F2 x7 hq2_1) (cwV 1 hts gX7_call_X7_enter rfl rfl rfl (by decide +kernel) ⟨Nat.le_of_ble_eq_true rfl, Nat.le_of_ble_eq_true rfl⟩) (va_recv hK hP (ci := 7) (q0 := 0) rfl rfl) rfl hl.1 rfl (Nat.le_of_ble_eq_true rfl) dX7_call_50 ⟨Nat.le_of_ble_eq_true rfl, Nat.le_of_ble_eq_true rfl⟩ (fun r8 u8 H locs hw8 hP hD hS => ?_)
          obtain ⟨g8, d8, F8⟩ := u8
          have hP : va_P D vwCl (mw cI a g8 d8 F8) H := hP
          have hD : va_D A (mw cI a g8 d8 F8) := hD
          refine lv_istore_n (lv' := [(3, .int r8), (2, .int y2_2), (1, .int y2_1), (0, .ref ((a 0)))]) hx hb dX7_call_53 rfl hl (by decide) rfl (fun ls hl => ?_)
          refine lv_iload_n hx hb dX7_call_54 rfl (lv_at hl 0 rfl) ?_
          refine lv_if_le (tgt := 62) hx hb dX7_call_55 (by decide) (fun c9 => ?_) (fun c9 => ?_)
          · refine lv_iconst (v := (-1)) hx hb dX7_call_62 (by decide) ?_
            refine lv_istore_n (lv' := [(2, .int ((-1))), (3, .int r8), (1, .int y2_1), (0, .ref ((a 0)))]) hx hb dX7_call_63 rfl hl (by decide) rfl (fun ls hl => ?_)
            refine lv_iload_n hx hb dX7_call_64 rfl (lv_at hl 1 rfl) ?_
            refine lv_if_le (tgt := 74) hx hb dX7_call_65 (by decide) (fun c10 => ?_) (fun c10 => ?_)
            · refine lv_iload_n hx hb dX7_call_74 rfl (lv_at hl 2 rfl) ?_
              refine lv_iconst (v := 1) hx hb dX7_call_75 (by decide) ?_
              refine lv_isub hx hb dX7_call_76 ?_
              refine lv_topi (fun x11 e11 => ?_)
              refine lv_istore_n (lv' := [(1, .int x11), (2, .int ((-1))), (3, .int r8), (0, .ref ((a 0)))]) hx hb dX7_call_77 rfl hl (by decide) rfl (fun ls hl => ?_)
              refine lv_goto (tgt := 9) hx hb dX7_call_78 (by decide) ?_
              exact ih2 (x11, ((-1)), g8, d8, F8) _ _ _ (by show Jm x11 ((-1)) g8 (F8 0) < Jm y2_1 y2_2 g2 (F2 0); rw [e11, show F8 0 = F2 0 from hw8.2.2.2.2.1]; exact (J_in hq2_0 hq2_1.2.2.2.2.2.2.1 hq2_1.2.2.2.2.2.2.2.1 c3 c5 e7 c9 hw8.1 hw8.2.2.1 hw8.2.2.2.2.2.1 hw8.2.2.2.2.2.2.1 hw8.2.2.2.2.2.2.2.1 hw8.2.2.2.2.2.2.2.2.1 hw8.2.2.2.2.2.2.2.2.2).2) ⟨by rw [e11, show F8 0 = F2 0 from hw8.2.2.2.2.1]; exact (J_in hq2_0 hq2_1.2.2.2.2.2.2.1 hq2_1.2.2.2.2.2.2.2.1 c3 c5 e7 c9 hw8.1 hw8.2.2.1 hw8.2.2.2.2.2.1 hw8.2.2.2.2.2.2.1 hw8.2.2.2.2.2.2.2.1 hw8.2.2.2.2.2.2.2.2.1 hw8.2.2.2.2.2.2.2.2.2).1, hw8.2.1, (hw8.2.2.1).trans hq2_2, (hw8.2.2.2.1).trans hq2_3, (hw8.2.2.2.2.1).trans hq2_4, hP, hD, hS, lv_sub hl [1, 0, 3] rfl⟩
            · exact absurd c9 c10
          · refine lv_iload_n hx hb dX7_call_58 rfl (lv_at hl 0 rfl) ?_
            refine lv_goto (tgt := 63) hx hb dX7_call_59 (by decide) ?_
            refine lv_istore_n (lv' := [(2, .int r8), (3, .int r8), (1, .int y2_1), (0, .ref ((a 0)))]) hx hb dX7_call_63 rfl hl (by decide) rfl (fun ls hl => ?_)
            refine lv_iload_n hx hb dX7_call_64 rfl (lv_at hl 1 rfl) ?_
            refine lv_if_le (tgt := 74) hx hb dX7_call_65 (by decide) (fun c12 => ?_) (fun c12 => ?_)
            · exact absurd c12 c9
            · refine lv_iload_n hx hb dX7_call_68 rfl (lv_at hl 2 rfl) ?_
              refine lv_iconst (v := 1) hx hb dX7_call_69 (by decide) ?_
              refine lv_iadd hx hb dX7_call_70 ?_
              refine lv_topi (fun x13 e13 => ?_)
              refine lv_goto (tgt := 77) hx hb dX7_call_71 (by decide) ?_
              refine lv_istore_n (lv' := [(1, .int x13), (2, .int r8), (3, .int r8), (0, .ref ((a 0)))]) hx hb dX7_call_77 rfl hl (by decide) rfl (fun ls hl => ?_)
              refine lv_goto (tgt := 9) hx hb dX7_call_78 (by decide) ?_
              exact ih2 (x13, r8, g8, d8, F8) _ _ _ (by show Jm x13 r8 g8 (F8 0) < Jm y2_1 y2_2 g2 (F2 0); rw [e13, show F8 0 = F2 0 from hw8.2.2.2.2.1]; exact (J_ref hq2_0 hq2_1.2.2.2.2.2.2.1 hq2_1.2.2.2.2.2.2.2.1 c3 c5 e7 c9 hw8.2.2.1 hw8.2.2.2.2.2.1 hw8.2.2.2.2.2.2.2.1 hw8.2.2.2.2.2.2.2.2.1 hw8.2.2.2.2.2.2.2.2.2).2) ⟨by rw [e13, show F8 0 = F2 0 from hw8.2.2.2.2.1]; exact (J_ref hq2_0 hq2_1.2.2.2.2.2.2.1 hq2_1.2.2.2.2.2.2.2.1 c3 c5 e7 c9 hw8.2.2.1 hw8.2.2.2.2.2.1 hw8.2.2.2.2.2.2.2.1 hw8.2.2.2.2.2.2.2.2.1 hw8.2.2.2.2.2.2.2.2.2).1, hw8.2.1, (hw8.2.2.1).trans hq2_2, (hw8.2.2.2.1).trans hq2_3, (hw8.2.2.2.2.1).trans hq2_4, hP, hD, hS, lv_sub hl [1, 0, 3] rfl⟩
      · refine lv_aload_n hx hb dX7_call_29 rfl (lv_at hl 2 rfl) ?_
        refine gc_vi (As := []) (rest := []) (w0 := mw cI a g2 d2 F2) (wc := mw cI a g2 d2 F2) (wr := []) (wf := wfM cI a) ⟨hx, hb, hml, hown, hts⟩ hKK hok hP hD hS hA [0, 1, 2, 3, 4, 5, 6] [] rfl rfl (by decide) (s_X7_supply l D cI a _ g2 d2 F2 hq2_1) (cwV 0 hts gX7_call_X7_supply rfl rfl rfl (by decide +kernel) ⟨Nat.le_of_ble_eq_true rfl, Nat.le_of_ble_eq_true rfl⟩) (va_recv hK hP (ci := 7) (q0 := 0) rfl rfl) rfl hl.1 rfl (Nat.le_of_ble_eq_true rfl) dX7_call_30 ⟨Nat.le_of_ble_eq_true rfl, Nat.le_of_ble_eq_true rfl⟩ (fun r14 u14 H locs hw14 hP hD hS => ?_)
        obtain ⟨g14, d14, F14⟩ := u14
        have hP : va_P D vwCl (mw cI a g14 d14 F14) H := hP
        have hD : va_D A (mw cI a g14 d14 F14) := hD
        refine lv_istore_n (lv' := [(2, .int r14), (1, .int y2_1), (0, .ref ((a 0)))]) hx hb dX7_call_33 rfl hl (by decide) rfl (fun ls hl => ?_)
        refine lv_iconst (v := 0) hx hb dX7_call_34 (by decide) ?_
        refine lv_istore_n (lv' := [(1, .int 0), (2, .int r14), (0, .ref ((a 0)))]) hx hb dX7_call_35 rfl hl (by decide) rfl (fun ls hl => ?_)
        refine lv_goto (tgt := 9) hx hb dX7_call_36 (by decide) ?_
        exact ih2 (0, r14, g14, d14, F14) _ _ _ (by show Jm 0 r14 g14 (F14 0) < Jm y2_1 y2_2 g2 (F2 0); rw [show F14 0 = F2 0 from hw14.2.2.2.2.1]; exact (J_sup hq2_0 hq2_1.2.2.2.2.2.2.1 hq2_1.2.2.2.2.2.2.2.1 c3 c5 hw14.1 hw14.2.2.1 hw14.2.2.2.2.2.1 hw14.2.2.2.2.2.2.1 hw14.2.2.2.2.2.2.2.2.1 hw14.2.2.2.2.2.2.2.2.2).2) ⟨by rw [show F14 0 = F2 0 from hw14.2.2.2.2.1]; exact (J_sup hq2_0 hq2_1.2.2.2.2.2.2.1 hq2_1.2.2.2.2.2.2.2.1 c3 c5 hw14.1 hw14.2.2.1 hw14.2.2.2.2.2.1 hw14.2.2.2.2.2.2.1 hw14.2.2.2.2.2.2.2.2.1 hw14.2.2.2.2.2.2.2.2.2).1, hw14.2.1, (hw14.2.2.1).trans hq2_2, (hw14.2.2.2.1).trans hq2_3, (hw14.2.2.2.2.1).trans hq2_4, hP, hD, hS, lv_sub hl [1, 0, 2] rfl⟩
  · refine lv_iload_n hx hb dX7_call_13 rfl (lv_at hl 1 rfl) ?_
    refine lv_aload_n hx hb dX7_call_14 rfl (lv_at hl 2 rfl) ?_
    refine va_get (D := D) (ci := 7) (v := .int ((g2 3))) (C := RX7) (T := TX7) (N := 41) hx hb hts hi7 hown hK hP 0 rfl rfl 3 (by decide) (hts (.fieldLink RX7 174 "GuardedCallsModel" "height" "I") (by decide +kernel)) (fun _ h9 => h9) rfl dX7_call_15 ?_
    refine lv_icmp_ge (tgt := 220) hx hb dX7_call_18 (by decide) (fun c15 => ?_) (fun c15 => ?_)
    · refine lv_aload_n hx hb dX7_call_220 rfl (lv_at hl 2 rfl) ?_
      refine lv_iload_n hx hb dX7_call_221 rfl (lv_at hl 0 rfl) ?_
      refine va_put (D := D) (ci := 7) (v := .int y2_2) (ty := .int) (C := RX7) (T := TX7) (N := 41) hx hb hts hi7 tyX7 tyX7_ok nmX7 hown hK hP hD hS 0 rfl rfl 0 (by decide) (hts (.fieldLink RX7 96 "GuardedCallsModel" "thrown" "I") (by decide +kernel)) (fun _ h9 => h9) rfl (by decide +kernel) rfl rfl (Nat.le_of_ble_eq_true rfl) dX7_call_222 (fun H locs hP hD hS => ?_)
      have hP : va_P D vwCl (mw cI a (upd g2 0 y2_2) d2 F2) H := hP
      have hD : va_D A (mw cI a (upd g2 0 y2_2) d2 F2) := hD
      refine lv_iload_n hx hb dX7_call_225 rfl (lv_at hl 0 rfl) ?_
      refine lv_if_le (tgt := 233) hx hb dX7_call_226 (by decide) (fun c16 => ?_) (fun c16 => ?_)
      · refine lv_aload_n hx hb dX7_call_233 rfl (lv_at hl 2 rfl) ?_
        refine va_get (D := D) (ci := 7) (v := .int ((g2 6))) (C := RX7) (T := TX7) (N := 41) hx hb hts hi7 hown hK hP 0 rfl rfl 6 (by decide) (hts (.fieldLink RX7 157 "GuardedCallsModel" "answer" "I") (by decide +kernel)) (fun _ h9 => h9) rfl dX7_call_234 ?_
        exact W.iret (v := ((g2 6))) hx hb hr (fun t ht hW => ⟨⟨_, (upd g2 0 y2_2, d2, F2), rfl, ⟨trivial, hq2_1, hq2_2, hq2_3, hq2_4⟩, by rw [ht]; exact hP, hD⟩, hS.F ht⟩) hS.2.2 dX7_call_237
      · refine lv_iconst (v := 0) hx hb dX7_call_229 (by decide) ?_
        refine lv_goto (tgt := 237) hx hb dX7_call_230 (by decide) ?_
        exact W.iret (v := 0) hx hb hr (fun t ht hW => ⟨⟨_, (upd g2 0 y2_2, d2, F2), rfl, ⟨trivial, hq2_1, hq2_2, hq2_3, hq2_4⟩, by rw [ht]; exact hP, hD⟩, hS.F ht⟩) hS.2.2 dX7_call_237
    · refine lv_iload_n hx hb dX7_call_21 rfl (lv_at hl 0 rfl) ?_
      refine lv_if_ge (tgt := 39) hx hb dX7_call_22 (by decide) (fun c17 => ?_) (fun c17 => ?_)
      · refine lv_iload_n hx hb dX7_call_39 rfl (lv_at hl 0 rfl) ?_
        refine lv_if_ge (tgt := 81) hx hb dX7_call_40 (by decide) (fun c18 => ?_) (fun c18 => ?_)
        · refine lv_aload_n hx hb dX7_call_81 rfl (lv_at hl 2 rfl) ?_
          refine va_get (D := D) (ci := 7) (v := .ref ((a 1))) (C := RX7) (T := TX7) (N := 41) hx hb hts hi7 hown hK hP 0 rfl rfl 4 (by decide) (hts (.fieldLink RX7 7 "GuardedCallsModel" "stack" "[I") (by decide +kernel)) (fun _ h9 => h9) rfl dX7_call_82 ?_
          refine lv_iload_n hx hb dX7_call_85 rfl (lv_at hl 1 rfl) ?_
          refine va_iald (D := D) hx hb hK hP 1 0 (f := (F2 0)) (n := 5) rfl rfl (J_ix hq2_0 hq2_1.2.2.2.2.2.2.1 (Or.inr ⟨c3, c15⟩)) dX7_call_86 ?_
          refine lv_topi (fun x19 e19 => ?_)
          refine lv_istore_n (lv' := [(3, .int x19), (2, .int y2_2), (1, .int y2_1), (0, .ref ((a 0)))]) hx hb dX7_call_87 rfl hl (by decide) rfl (fun ls hl => ?_)
          refine lv_iload_n hx hb dX7_call_88 rfl (lv_at hl 0 rfl) ?_
          refine lv_if_ne (tgt := 97) hx hb dX7_call_89 (by decide) (fun c20 => ?_) (fun c20 => ?_)
          · refine lv_iload_n hx hb dX7_call_97 rfl (lv_at hl 0 rfl) ?_
            refine lv_iconst (v := 3) hx hb dX7_call_98 (by decide) ?_
            refine lv_icmp_le (tgt := 108) hx hb dX7_call_99 (by decide) (fun c21 => ?_) (fun c21 => ?_)
            · refine lv_iload_n hx hb dX7_call_108 rfl (lv_at hl 0 rfl) ?_
              refine lv_iconst (v := 3) hx hb dX7_call_109 (by decide) ?_
              refine lv_icmp_ne (tgt := 136) hx hb dX7_call_110 (by decide) (fun c22 => ?_) (fun c22 => ?_)
              · refine lv_iconst (v := 0) hx hb dX7_call_136 (by decide) ?_
                refine lv_istore (lv' := [(4, .int 0), (3, .int x19), (2, .int y2_2), (1, .int y2_1), (0, .ref ((a 0)))]) hx hb dX7_call_137 hl (by decide) rfl (fun ls hl => ?_)
                refine lv_iload_n hx hb dX7_call_139 rfl (lv_at hl 1 rfl) ?_
                refine lv_iconst (v := 3) hx hb dX7_call_140 (by decide) ?_
                refine lv_icmp_ne (tgt := 163) hx hb dX7_call_141 (by decide) (fun c23 => ?_) (fun c23 => ?_)
                · refine lv_iload hx hb dX7_call_163 (lv_at hl 0 rfl) ?_
                  refine lv_if_eq (tgt := 213) hx hb dX7_call_165 (by decide) (fun c24 => ?_) (fun c24 => ?_)
                  · refine lv_iload_n hx hb dX7_call_213 rfl (lv_at hl 3 rfl) ?_
                    refine lv_iconst (v := 1) hx hb dX7_call_214 (by decide) ?_
                    refine lv_iadd hx hb dX7_call_215 ?_
                    refine lv_topi (fun x25 e25 => ?_)
                    refine lv_istore_n (lv' := [(1, .int x25), (4, .int 0), (3, .int x19), (2, .int y2_2), (0, .ref ((a 0)))]) hx hb dX7_call_216 rfl hl (by decide) rfl (fun ls hl => ?_)
                    refine lv_goto (tgt := 9) hx hb dX7_call_217 (by decide) ?_
                    exact ih2 (x25, y2_2, g2, d2, F2) _ _ _ (by show Jm x25 y2_2 g2 (F2 0) < Jm y2_1 y2_2 g2 (F2 0); rw [e25, show F2 0 = F2 0 from rfl]; exact (J_up (b2 := y2_2) hq2_0 hq2_1.2.2.2.2.2.2.1 c3 c3 c15 e19 rfl rfl (fun _ => ⟨rfl, rfl⟩) rfl).2) ⟨by rw [e25, show F2 0 = F2 0 from rfl]; exact (J_up (b2 := y2_2) hq2_0 hq2_1.2.2.2.2.2.2.1 c3 c3 c15 e19 rfl rfl (fun _ => ⟨rfl, rfl⟩) rfl).1, hq2_1, (rfl).trans hq2_2, (rfl).trans hq2_3, (rfl).trans hq2_4, hP, hD, hS, lv_sub hl [3, 0, 4] rfl⟩
                  · exact absurd c24 (by decide)
                · exact absurd c23 c22
              · refine lv_aload_n hx hb dX7_call_113 rfl (lv_at hl 3 rfl) ?_
                refine lv_iload_n hx hb dX7_call_114 rfl (lv_at hl 1 rfl) ?_
                refine gc_vi (As := [.int y2_2]) (rest := []) (w0 := mw cI a g2 d2 F2) (wc := mw cI a g2 d2 F2) (wr := []) (wf := wfM cI a) ⟨hx, hb, hml, hown, hts⟩ hKK hok hP hD hS hA [0, 1, 2, 3, 4, 5, 6] [] rfl rfl (by decide) (s_X7_isAgain l D cI a _ g2 d2 F2 y2_2) (cwV 1 hts gX7_call_X7_isAgain rfl rfl rfl (by decide +kernel) ⟨Nat.le_of_ble_eq_true rfl, Nat.le_of_ble_eq_true rfl⟩) (va_recv hK hP (ci := 7) (q0 := 0) rfl rfl) rfl hl.1 rfl (Nat.le_of_ble_eq_true rfl) dX7_call_115 ⟨Nat.le_of_ble_eq_true rfl, Nat.le_of_ble_eq_true rfl⟩ (fun r26 u26 H locs hw26 hP hD hS => ?_)
                subst hw26
                have hP : va_P D vwCl (mw cI a g2 d2 F2) H := hP
                have hD : va_D A (mw cI a g2 d2 F2) := hD
                refine lv_if_eq (tgt := 136) hx hb dX7_call_118 (by decide) (fun c27 => ?_) (fun c27 => ?_)
                · refine lv_iconst (v := 0) hx hb dX7_call_136 (by decide) ?_
                  refine lv_istore (lv' := [(4, .int 0), (3, .int x19), (2, .int y2_2), (1, .int y2_1), (0, .ref ((a 0)))]) hx hb dX7_call_137 hl (by decide) rfl (fun ls hl => ?_)
                  refine lv_iload_n hx hb dX7_call_139 rfl (lv_at hl 1 rfl) ?_
                  refine lv_iconst (v := 3) hx hb dX7_call_140 (by decide) ?_
                  refine lv_icmp_ne (tgt := 163) hx hb dX7_call_141 (by decide) (fun c28 => ?_) (fun c28 => ?_)
                  · exact absurd c22 c28
                  · refine lv_aload_n hx hb dX7_call_144 rfl (lv_at hl 4 rfl) ?_
                    refine lv_iload_n hx hb dX7_call_145 rfl (lv_at hl 2 rfl) ?_
                    refine gc_vi (As := [.int y2_2]) (rest := []) (w0 := mw cI a g2 d2 F2) (wc := mw cI a g2 d2 F2) (wr := []) (wf := wfM cI a) ⟨hx, hb, hml, hown, hts⟩ hKK hok hP hD hS hA [0, 1, 2, 3, 4, 5, 6] [] rfl rfl (by decide) (s_X7_isAgain l D cI a _ g2 d2 F2 y2_2) (cwV 1 hts gX7_call_X7_isAgain rfl rfl rfl (by decide +kernel) ⟨Nat.le_of_ble_eq_true rfl, Nat.le_of_ble_eq_true rfl⟩) (va_recv hK hP (ci := 7) (q0 := 0) rfl rfl) rfl hl.1 rfl (Nat.le_of_ble_eq_true rfl) dX7_call_146 ⟨Nat.le_of_ble_eq_true rfl, Nat.le_of_ble_eq_true rfl⟩ (fun r29 u29 H locs hw29 hP hD hS => ?_)
                    subst hw29
                    have hP : va_P D vwCl (mw cI a g2 d2 F2) H := hP
                    have hD : va_D A (mw cI a g2 d2 F2) := hD
                    refine lv_if_eq (tgt := 163) hx hb dX7_call_149 (by decide) (fun c30 => ?_) (fun c30 => ?_)
                    · refine lv_iload hx hb dX7_call_163 (lv_at hl 0 rfl) ?_
                      refine lv_if_eq (tgt := 213) hx hb dX7_call_165 (by decide) (fun c31 => ?_) (fun c31 => ?_)
                      · refine lv_iload_n hx hb dX7_call_213 rfl (lv_at hl 3 rfl) ?_
                        refine lv_iconst (v := 1) hx hb dX7_call_214 (by decide) ?_
                        refine lv_iadd hx hb dX7_call_215 ?_
                        refine lv_topi (fun x32 e32 => ?_)
                        refine lv_istore_n (lv' := [(1, .int x32), (4, .int 0), (3, .int x19), (2, .int y2_2), (0, .ref ((a 0)))]) hx hb dX7_call_216 rfl hl (by decide) rfl (fun ls hl => ?_)
                        refine lv_goto (tgt := 9) hx hb dX7_call_217 (by decide) ?_
                        exact ih2 (x32, y2_2, g2, d2, F2) _ _ _ (by show Jm x32 y2_2 g2 (F2 0) < Jm y2_1 y2_2 g2 (F2 0); rw [e32, show F2 0 = F2 0 from rfl]; exact (J_up (b2 := y2_2) hq2_0 hq2_1.2.2.2.2.2.2.1 c3 c3 c15 e19 rfl rfl (fun _ => ⟨rfl, rfl⟩) rfl).2) ⟨by rw [e32, show F2 0 = F2 0 from rfl]; exact (J_up (b2 := y2_2) hq2_0 hq2_1.2.2.2.2.2.2.1 c3 c3 c15 e19 rfl rfl (fun _ => ⟨rfl, rfl⟩) rfl).1, hq2_1, (rfl).trans hq2_2, (rfl).trans hq2_3, (rfl).trans hq2_4, hP, hD, hS, lv_sub hl [3, 0, 4] rfl⟩
                      · exact absurd c31 (by decide)
                    · refine lv_iload hx hb dX7_call_152 (lv_at hl 0 rfl) ?_
                      refine lv_if_ne (tgt := 163) hx hb dX7_call_154 (by decide) (fun c33 => ?_) (fun c33 => ?_)
                      · exact absurd c33 (by decide)
                      · refine lv_aload_n hx hb dX7_call_157 rfl (lv_at hl 4 rfl) ?_
                        refine lv_bipush (v := 32) hx hb dX7_call_158 (by decide) ?_
                        refine gc_vv (As := [.int 32]) (rest := []) (w0 := mw cI a g2 d2 F2) (wc := mw cI a g2 d2 F2) (wr := []) (wf := wfM cI a) ⟨hx, hb, hml, hown, hts⟩ hKK hok hP hD hS hA [0, 1, 2, 3, 4, 5, 6] [] rfl rfl (by decide) (s_X7_note l D cI a _ g2 d2 F2 32 hq2_1) (cwV 1 hts gX7_call_X7_note rfl rfl rfl (by decide +kernel) ⟨Nat.le_of_ble_eq_true rfl, Nat.le_of_ble_eq_true rfl⟩) (va_recv hK hP (ci := 7) (q0 := 0) rfl rfl) rfl hl.1 rfl (Nat.le_of_ble_eq_true rfl) dX7_call_160 ⟨Nat.le_of_ble_eq_true rfl, Nat.le_of_ble_eq_true rfl⟩ (fun u34 H locs hw34 hP hD hS => ?_)
                        obtain ⟨g34, d34, F34⟩ := u34
                        have hP : va_P D vwCl (mw cI a g34 d34 F34) H := hP
                        have hD : va_D A (mw cI a g34 d34 F34) := hD
                        refine lv_iload hx hb dX7_call_163 (lv_at hl 0 rfl) ?_
                        refine lv_if_eq (tgt := 213) hx hb dX7_call_165 (by decide) (fun c35 => ?_) (fun c35 => ?_)
                        · refine lv_iload_n hx hb dX7_call_213 rfl (lv_at hl 3 rfl) ?_
                          refine lv_iconst (v := 1) hx hb dX7_call_214 (by decide) ?_
                          refine lv_iadd hx hb dX7_call_215 ?_
                          refine lv_topi (fun x36 e36 => ?_)
                          refine lv_istore_n (lv' := [(1, .int x36), (4, .int 0), (3, .int x19), (2, .int y2_2), (0, .ref ((a 0)))]) hx hb dX7_call_216 rfl hl (by decide) rfl (fun ls hl => ?_)
                          refine lv_goto (tgt := 9) hx hb dX7_call_217 (by decide) ?_
                          exact ih2 (x36, y2_2, g34, d34, F34) _ _ _ (by show Jm x36 y2_2 g34 (F34 0) < Jm y2_1 y2_2 g2 (F2 0); rw [e36, show F34 0 = F2 0 from hw34.2.2.2.2.1]; exact (J_up (b2 := y2_2) hq2_0 hq2_1.2.2.2.2.2.2.1 c3 c3 c15 e19 hw34.2.2.1 hw34.2.2.2.2.2.1 (fun _ => ⟨hw34.2.2.2.2.2.2.1, hw34.2.2.2.2.2.2.2.2.1⟩) hw34.2.2.2.2.2.2.2.2.2).2) ⟨by rw [e36, show F34 0 = F2 0 from hw34.2.2.2.2.1]; exact (J_up (b2 := y2_2) hq2_0 hq2_1.2.2.2.2.2.2.1 c3 c3 c15 e19 hw34.2.2.1 hw34.2.2.2.2.2.1 (fun _ => ⟨hw34.2.2.2.2.2.2.1, hw34.2.2.2.2.2.2.2.2.1⟩) hw34.2.2.2.2.2.2.2.2.2).1, hw34.2.1, (hw34.2.2.1).trans hq2_2, (hw34.2.2.2.1).trans hq2_3, (hw34.2.2.2.2.1).trans hq2_4, hP, hD, hS, lv_sub hl [3, 0, 4] rfl⟩
                        · exact absurd c35 (by decide)
                · refine lv_aload_n hx hb dX7_call_121 rfl (lv_at hl 3 rfl) ?_
                  refine va_get (D := D) (ci := 7) (v := .int ((g2 37))) (C := RX7) (T := TX7) (N := 41) hx hb hts hi7 hown hK hP 0 rfl rfl 37 (by decide) (hts (.fieldLink RX7 151 "GuardedCallsModel" "tried" "I") (by decide +kernel)) (fun _ h9 => h9) rfl dX7_call_122 ?_
                  refine lv_aload_n hx hb dX7_call_125 rfl (lv_at hl 3 rfl) ?_
                  refine va_get (D := D) (ci := 7) (v := .int ((g2 32))) (C := RX7) (T := TX7) (N := 41) hx hb hts hi7 hown hK hP 0 rfl rfl 32 (by decide) (hts (.fieldLink RX7 67 "GuardedCallsModel" "attempts" "I") (by decide +kernel)) (fun _ h9 => h9) rfl dX7_call_126 ?_
                  refine lv_icmp_ge (tgt := 136) hx hb dX7_call_129 (by decide) (fun c37 => ?_) (fun c37 => ?_)
                  · refine lv_iconst (v := 0) hx hb dX7_call_136 (by decide) ?_
                    refine lv_istore (lv' := [(4, .int 0), (3, .int x19), (2, .int y2_2), (1, .int y2_1), (0, .ref ((a 0)))]) hx hb dX7_call_137 hl (by decide) rfl (fun ls hl => ?_)
                    refine lv_iload_n hx hb dX7_call_139 rfl (lv_at hl 1 rfl) ?_
                    refine lv_iconst (v := 3) hx hb dX7_call_140 (by decide) ?_
                    refine lv_icmp_ne (tgt := 163) hx hb dX7_call_141 (by decide) (fun c38 => ?_) (fun c38 => ?_)
                    · exact absurd c22 c38
                    · refine lv_aload_n hx hb dX7_call_144 rfl (lv_at hl 4 rfl) ?_
                      refine lv_iload_n hx hb dX7_call_145 rfl (lv_at hl 2 rfl) ?_
                      refine gc_vi (As := [.int y2_2]) (rest := []) (w0 := mw cI a g2 d2 F2) (wc := mw cI a g2 d2 F2) (wr := []) (wf := wfM cI a) ⟨hx, hb, hml, hown, hts⟩ hKK hok hP hD hS hA [0, 1, 2, 3, 4, 5, 6] [] rfl rfl (by decide) (s_X7_isAgain l D cI a _ g2 d2 F2 y2_2) (cwV 1 hts gX7_call_X7_isAgain rfl rfl rfl (by decide +kernel) ⟨Nat.le_of_ble_eq_true rfl, Nat.le_of_ble_eq_true rfl⟩) (va_recv hK hP (ci := 7) (q0 := 0) rfl rfl) rfl hl.1 rfl (Nat.le_of_ble_eq_true rfl) dX7_call_146 ⟨Nat.le_of_ble_eq_true rfl, Nat.le_of_ble_eq_true rfl⟩ (fun r39 u39 H locs hw39 hP hD hS => ?_)
                      subst hw39
                      have hP : va_P D vwCl (mw cI a g2 d2 F2) H := hP
                      have hD : va_D A (mw cI a g2 d2 F2) := hD
                      refine lv_if_eq (tgt := 163) hx hb dX7_call_149 (by decide) (fun c40 => ?_) (fun c40 => ?_)
                      · refine lv_iload hx hb dX7_call_163 (lv_at hl 0 rfl) ?_
                        refine lv_if_eq (tgt := 213) hx hb dX7_call_165 (by decide) (fun c41 => ?_) (fun c41 => ?_)
                        · refine lv_iload_n hx hb dX7_call_213 rfl (lv_at hl 3 rfl) ?_
                          refine lv_iconst (v := 1) hx hb dX7_call_214 (by decide) ?_
                          refine lv_iadd hx hb dX7_call_215 ?_
                          refine lv_topi (fun x42 e42 => ?_)
                          refine lv_istore_n (lv' := [(1, .int x42), (4, .int 0), (3, .int x19), (2, .int y2_2), (0, .ref ((a 0)))]) hx hb dX7_call_216 rfl hl (by decide) rfl (fun ls hl => ?_)
                          refine lv_goto (tgt := 9) hx hb dX7_call_217 (by decide) ?_
                          exact ih2 (x42, y2_2, g2, d2, F2) _ _ _ (by show Jm x42 y2_2 g2 (F2 0) < Jm y2_1 y2_2 g2 (F2 0); rw [e42, show F2 0 = F2 0 from rfl]; exact (J_up (b2 := y2_2) hq2_0 hq2_1.2.2.2.2.2.2.1 c3 c3 c15 e19 rfl rfl (fun _ => ⟨rfl, rfl⟩) rfl).2) ⟨by rw [e42, show F2 0 = F2 0 from rfl]; exact (J_up (b2 := y2_2) hq2_0 hq2_1.2.2.2.2.2.2.1 c3 c3 c15 e19 rfl rfl (fun _ => ⟨rfl, rfl⟩) rfl).1, hq2_1, (rfl).trans hq2_2, (rfl).trans hq2_3, (rfl).trans hq2_4, hP, hD, hS, lv_sub hl [3, 0, 4] rfl⟩
                        · exact absurd c41 (by decide)
                      · refine lv_iload hx hb dX7_call_152 (lv_at hl 0 rfl) ?_
                        refine lv_if_ne (tgt := 163) hx hb dX7_call_154 (by decide) (fun c43 => ?_) (fun c43 => ?_)
                        · exact absurd c43 (by decide)
                        · refine lv_aload_n hx hb dX7_call_157 rfl (lv_at hl 4 rfl) ?_
                          refine lv_bipush (v := 32) hx hb dX7_call_158 (by decide) ?_
                          refine gc_vv (As := [.int 32]) (rest := []) (w0 := mw cI a g2 d2 F2) (wc := mw cI a g2 d2 F2) (wr := []) (wf := wfM cI a) ⟨hx, hb, hml, hown, hts⟩ hKK hok hP hD hS hA [0, 1, 2, 3, 4, 5, 6] [] rfl rfl (by decide) (s_X7_note l D cI a _ g2 d2 F2 32 hq2_1) (cwV 1 hts gX7_call_X7_note rfl rfl rfl (by decide +kernel) ⟨Nat.le_of_ble_eq_true rfl, Nat.le_of_ble_eq_true rfl⟩) (va_recv hK hP (ci := 7) (q0 := 0) rfl rfl) rfl hl.1 rfl (Nat.le_of_ble_eq_true rfl) dX7_call_160 ⟨Nat.le_of_ble_eq_true rfl, Nat.le_of_ble_eq_true rfl⟩ (fun u44 H locs hw44 hP hD hS => ?_)
                          obtain ⟨g44, d44, F44⟩ := u44
                          have hP : va_P D vwCl (mw cI a g44 d44 F44) H := hP
                          have hD : va_D A (mw cI a g44 d44 F44) := hD
                          refine lv_iload hx hb dX7_call_163 (lv_at hl 0 rfl) ?_
                          refine lv_if_eq (tgt := 213) hx hb dX7_call_165 (by decide) (fun c45 => ?_) (fun c45 => ?_)
                          · refine lv_iload_n hx hb dX7_call_213 rfl (lv_at hl 3 rfl) ?_
                            refine lv_iconst (v := 1) hx hb dX7_call_214 (by decide) ?_
                            refine lv_iadd hx hb dX7_call_215 ?_
                            refine lv_topi (fun x46 e46 => ?_)
                            refine lv_istore_n (lv' := [(1, .int x46), (4, .int 0), (3, .int x19), (2, .int y2_2), (0, .ref ((a 0)))]) hx hb dX7_call_216 rfl hl (by decide) rfl (fun ls hl => ?_)
                            refine lv_goto (tgt := 9) hx hb dX7_call_217 (by decide) ?_
                            exact ih2 (x46, y2_2, g44, d44, F44) _ _ _ (by show Jm x46 y2_2 g44 (F44 0) < Jm y2_1 y2_2 g2 (F2 0); rw [e46, show F44 0 = F2 0 from hw44.2.2.2.2.1]; exact (J_up (b2 := y2_2) hq2_0 hq2_1.2.2.2.2.2.2.1 c3 c3 c15 e19 hw44.2.2.1 hw44.2.2.2.2.2.1 (fun _ => ⟨hw44.2.2.2.2.2.2.1, hw44.2.2.2.2.2.2.2.2.1⟩) hw44.2.2.2.2.2.2.2.2.2).2) ⟨by rw [e46, show F44 0 = F2 0 from hw44.2.2.2.2.1]; exact (J_up (b2 := y2_2) hq2_0 hq2_1.2.2.2.2.2.2.1 c3 c3 c15 e19 hw44.2.2.1 hw44.2.2.2.2.2.1 (fun _ => ⟨hw44.2.2.2.2.2.2.1, hw44.2.2.2.2.2.2.2.2.1⟩) hw44.2.2.2.2.2.2.2.2.2).1, hw44.2.1, (hw44.2.2.1).trans hq2_2, (hw44.2.2.2.1).trans hq2_3, (hw44.2.2.2.2.1).trans hq2_4, hP, hD, hS, lv_sub hl [3, 0, 4] rfl⟩
                          · exact absurd c45 (by decide)
                  · refine lv_iconst (v := 1) hx hb dX7_call_132 (by decide) ?_
                    refine lv_goto (tgt := 137) hx hb dX7_call_133 (by decide) ?_
                    refine lv_istore (lv' := [(4, .int 1), (3, .int x19), (2, .int y2_2), (1, .int y2_1), (0, .ref ((a 0)))]) hx hb dX7_call_137 hl (by decide) rfl (fun ls hl => ?_)
                    refine lv_iload_n hx hb dX7_call_139 rfl (lv_at hl 1 rfl) ?_
                    refine lv_iconst (v := 3) hx hb dX7_call_140 (by decide) ?_
                    refine lv_icmp_ne (tgt := 163) hx hb dX7_call_141 (by decide) (fun c47 => ?_) (fun c47 => ?_)
                    · exact absurd c22 c47
                    · refine lv_aload_n hx hb dX7_call_144 rfl (lv_at hl 4 rfl) ?_
                      refine lv_iload_n hx hb dX7_call_145 rfl (lv_at hl 2 rfl) ?_
                      refine gc_vi (As := [.int y2_2]) (rest := []) (w0 := mw cI a g2 d2 F2) (wc := mw cI a g2 d2 F2) (wr := []) (wf := wfM cI a) ⟨hx, hb, hml, hown, hts⟩ hKK hok hP hD hS hA [0, 1, 2, 3, 4, 5, 6] [] rfl rfl (by decide) (s_X7_isAgain l D cI a _ g2 d2 F2 y2_2) (cwV 1 hts gX7_call_X7_isAgain rfl rfl rfl (by decide +kernel) ⟨Nat.le_of_ble_eq_true rfl, Nat.le_of_ble_eq_true rfl⟩) (va_recv hK hP (ci := 7) (q0 := 0) rfl rfl) rfl hl.1 rfl (Nat.le_of_ble_eq_true rfl) dX7_call_146 ⟨Nat.le_of_ble_eq_true rfl, Nat.le_of_ble_eq_true rfl⟩ (fun r48 u48 H locs hw48 hP hD hS => ?_)
                      subst hw48
                      have hP : va_P D vwCl (mw cI a g2 d2 F2) H := hP
                      have hD : va_D A (mw cI a g2 d2 F2) := hD
                      refine lv_if_eq (tgt := 163) hx hb dX7_call_149 (by decide) (fun c49 => ?_) (fun c49 => ?_)
                      · refine lv_iload hx hb dX7_call_163 (lv_at hl 0 rfl) ?_
                        refine lv_if_eq (tgt := 213) hx hb dX7_call_165 (by decide) (fun c50 => ?_) (fun c50 => ?_)
                        · exact absurd c50 (by decide)
                        · refine lv_aload_n hx hb dX7_call_168 rfl (lv_at hl 4 rfl) ?_
                          refine lv_bipush (v := 31) hx hb dX7_call_169 (by decide) ?_
                          refine gc_vv (As := [.int 31]) (rest := []) (w0 := mw cI a g2 d2 F2) (wc := mw cI a g2 d2 F2) (wr := []) (wf := wfM cI a) ⟨hx, hb, hml, hown, hts⟩ hKK hok hP hD hS hA [0, 1, 2, 3, 4, 5, 6] [] rfl rfl (by decide) (s_X7_note l D cI a _ g2 d2 F2 31 hq2_1) (cwV 1 hts gX7_call_X7_note rfl rfl rfl (by decide +kernel) ⟨Nat.le_of_ble_eq_true rfl, Nat.le_of_ble_eq_true rfl⟩) (va_recv hK hP (ci := 7) (q0 := 0) rfl rfl) rfl hl.1 rfl (Nat.le_of_ble_eq_true rfl) dX7_call_171 ⟨Nat.le_of_ble_eq_true rfl, Nat.le_of_ble_eq_true rfl⟩ (fun u51 H locs hw51 hP hD hS => ?_)
                          obtain ⟨g51, d51, F51⟩ := u51
                          have hP : va_P D vwCl (mw cI a g51 d51 F51) H := hP
                          have hD : va_D A (mw cI a g51 d51 F51) := hD
                          refine lv_aload_n hx hb dX7_call_174 rfl (lv_at hl 4 rfl) ?_
                          refine lv_aload_n hx hb dX7_call_175 rfl (lv_at hl 4 rfl) ?_
                          refine gc_vi (As := []) (rest := [.ref ((a 0))]) (w0 := mw cI a g51 d51 F51) (wc := mw cI a g51 d51 F51) (wr := []) (wf := wfM cI a) ⟨hx, hb, hml, hown, hts⟩ hKK hok hP hD hS hA [0, 1, 2, 3, 4, 5, 6] [] rfl rfl (by decide) (s_X7_pause l D cI a _ g51 d51 F51 hw51.2.1) (cwV 0 hts gX7_call_X7_pause rfl rfl rfl (by decide +kernel) ⟨Nat.le_of_ble_eq_true rfl, Nat.le_of_ble_eq_true rfl⟩) (va_recv hK hP (ci := 7) (q0 := 0) rfl rfl) rfl hl.1 rfl (Nat.le_of_ble_eq_true rfl) dX7_call_176 ⟨Nat.le_of_ble_eq_true rfl, Nat.le_of_ble_eq_true rfl⟩ (fun r52 u52 H locs hw52 hP hD hS => ?_)
                          subst hw52
                          have hP : va_P D vwCl (mw cI a g51 d51 F51) H := hP
                          have hD : va_D A (mw cI a g51 d51 F51) := hD
                          refine gc_vi (As := [.int r52]) (rest := []) (w0 := mw cI a g51 d51 F51) (wc := mw cI a g51 d51 F51) (wr := []) (wf := wfM cI a) ⟨hx, hb, hml, hown, hts⟩ hKK hok hP hD hS hA [0, 1, 2, 3, 4, 5, 6] [] rfl rfl (by decide) (s_X7_lapse l D cI a _ g51 d51 F51 r52 hw51.2.1) (cwV 1 hts gX7_call_X7_lapse rfl rfl rfl (by decide +kernel) ⟨Nat.le_of_ble_eq_true rfl, Nat.le_of_ble_eq_true rfl⟩) (va_recv hK hP (ci := 7) (q0 := 0) rfl rfl) rfl hl.1 rfl (Nat.le_of_ble_eq_true rfl) dX7_call_179 ⟨Nat.le_of_ble_eq_true rfl, Nat.le_of_ble_eq_true rfl⟩ (fun r53 u53 H locs hw53 hP hD hS => ?_)
                          obtain ⟨g53, d53, F53⟩ := u53
                          have hP : va_P D vwCl (mw cI a g53 d53 F53) H := hP
                          have hD : va_D A (mw cI a g53 d53 F53) := hD
                          refine lv_if_eq (tgt := 204) hx hb dX7_call_182 (by decide) (fun c54 => ?_) (fun c54 => ?_)
                          · refine lv_iconst (v := 4) hx hb dX7_call_204 (by decide) ?_
                            refine lv_istore_n (lv' := [(2, .int 4), (4, .int 1), (3, .int x19), (1, .int y2_1), (0, .ref ((a 0)))]) hx hb dX7_call_205 rfl hl (by decide) rfl (fun ls hl => ?_)
                            refine lv_iload_n hx hb dX7_call_206 rfl (lv_at hl 3 rfl) ?_
                            refine lv_iconst (v := 1) hx hb dX7_call_207 (by decide) ?_
                            refine lv_iadd hx hb dX7_call_208 ?_
                            refine lv_topi (fun x55 e55 => ?_)
                            refine lv_istore_n (lv' := [(1, .int x55), (2, .int 4), (4, .int 1), (3, .int x19), (0, .ref ((a 0)))]) hx hb dX7_call_209 rfl hl (by decide) rfl (fun ls hl => ?_)
                            refine lv_goto (tgt := 217) hx hb dX7_call_210 (by decide) ?_
                            refine lv_goto (tgt := 9) hx hb dX7_call_217 (by decide) ?_
                            exact ih2 (x55, 4, g53, d53, F53) _ _ _ (by show Jm x55 4 g53 (F53 0) < Jm y2_1 y2_2 g2 (F2 0); rw [e55, show F53 0 = F2 0 from (hw53.2.2.2.2.1.trans hw51.2.2.2.2.1)]; exact (J_up (b2 := 4) hq2_0 hq2_1.2.2.2.2.2.2.1 c3 (by decide) c15 e19 (hw53.2.2.1.trans hw51.2.2.1) (hw53.2.2.2.2.2.1.trans hw51.2.2.2.2.2.1) (fun _ => ⟨(hw53.2.2.2.2.2.2.1.trans hw51.2.2.2.2.2.2.1), (hw53.2.2.2.2.2.2.2.2.1.trans hw51.2.2.2.2.2.2.2.2.1)⟩) (hw53.2.2.2.2.2.2.2.2.2.trans hw51.2.2.2.2.2.2.2.2.2)).2) ⟨by rw [e55, show F53 0 = F2 0 from (hw53.2.2.2.2.1.trans hw51.2.2.2.2.1)]; exact (J_up (b2 := 4) hq2_0 hq2_1.2.2.2.2.2.2.1 c3 (by decide) c15 e19 (hw53.2.2.1.trans hw51.2.2.1) (hw53.2.2.2.2.2.1.trans hw51.2.2.2.2.2.1) (fun _ => ⟨(hw53.2.2.2.2.2.2.1.trans hw51.2.2.2.2.2.2.1), (hw53.2.2.2.2.2.2.2.2.1.trans hw51.2.2.2.2.2.2.2.2.1)⟩) (hw53.2.2.2.2.2.2.2.2.2.trans hw51.2.2.2.2.2.2.2.2.2)).1, hw53.2.1, ((hw53.2.2.1.trans hw51.2.2.1)).trans hq2_2, ((hw53.2.2.2.1.trans hw51.2.2.2.1)).trans hq2_3, ((hw53.2.2.2.2.1.trans hw51.2.2.2.2.1)).trans hq2_4, hP, hD, hS, lv_sub hl [1, 0, 4] rfl⟩
                          · refine lv_aload_n hx hb dX7_call_185 rfl (lv_at hl 4 rfl) ?_
                            refine lv_aload_n hx hb dX7_call_186 rfl (lv_at hl 4 rfl) ?_
                            refine va_get (D := D) (ci := 7) (v := .int ((g53 37))) (C := RX7) (T := TX7) (N := 41) hx hb hts hi7 hown hK hP 0 rfl rfl 37 (by decide) (hts (.fieldLink RX7 151 "GuardedCallsModel" "tried" "I") (by decide +kernel)) (fun _ h9 => h9) rfl dX7_call_187 ?_
                            refine lv_iconst (v := 1) hx hb dX7_call_190 (by decide) ?_
                            refine lv_iadd hx hb dX7_call_191 ?_
                            refine lv_topi (fun x56 e56 => ?_)
                            refine va_put (D := D) (ci := 7) (v := .int x56) (ty := .int) (C := RX7) (T := TX7) (N := 41) hx hb hts hi7 tyX7 tyX7_ok nmX7 hown hK hP hD hS 0 rfl rfl 37 (by decide) (hts (.fieldLink RX7 151 "GuardedCallsModel" "tried" "I") (by decide +kernel)) (fun _ h9 => h9) rfl (by decide +kernel) rfl rfl (Nat.le_of_ble_eq_true rfl) dX7_call_192 (fun H locs hP hD hS => ?_)
                            have hP : va_P D vwCl (mw cI a (upd g53 37 x56) d53 F53) H := hP
                            have hD : va_D A (mw cI a (upd g53 37 x56) d53 F53) := hD
                            have hI57 : MI (upd g53 37 x56) d53 F53 := ⟨hw53.2.1.1, hw53.2.1.2.1, hw53.2.1.2.2.1, hw53.2.1.2.2.2.1, hw53.2.1.2.2.2.2.1, hw53.2.1.2.2.2.2.2.1, hw53.2.1.2.2.2.2.2.2.1, by show 0 ≤ (x56).toInt; rw [e56, show (g53 37) = g2 37 from (hw53.2.2.2.2.2.2.2.2.2.trans hw51.2.2.2.2.2.2.2.2.2), i_inc c37]; have := hq2_1.2.2.2.2.2.2.2.1; omega, hw53.2.1.2.2.2.2.2.2.2.2⟩
                            refine lv_iconst (v := (-1)) hx hb dX7_call_195 (by decide) ?_
                            refine lv_istore_n (lv' := [(2, .int ((-1))), (4, .int 1), (3, .int x19), (1, .int y2_1), (0, .ref ((a 0)))]) hx hb dX7_call_196 rfl hl (by decide) rfl (fun ls hl => ?_)
                            refine lv_iload_n hx hb dX7_call_197 rfl (lv_at hl 3 rfl) ?_
                            refine lv_iconst (v := 1) hx hb dX7_call_198 (by decide) ?_
                            refine lv_isub hx hb dX7_call_199 ?_
                            refine lv_topi (fun x58 e58 => ?_)
                            refine lv_istore_n (lv' := [(1, .int x58), (2, .int ((-1))), (4, .int 1), (3, .int x19), (0, .ref ((a 0)))]) hx hb dX7_call_200 rfl hl (by decide) rfl (fun ls hl => ?_)
                            refine lv_goto (tgt := 217) hx hb dX7_call_201 (by decide) ?_
                            refine lv_goto (tgt := 9) hx hb dX7_call_217 (by decide) ?_
                            exact ih2 (x58, ((-1)), upd g53 37 x56, d53, F53) _ _ _ (by show Jm x58 ((-1)) (upd g53 37 x56) (F53 0) < Jm y2_1 y2_2 g2 (F2 0); rw [e58, show F53 0 = F2 0 from (hw53.2.2.2.2.1.trans hw51.2.2.2.2.1)]; exact (J_retry (t := 0) (g' := upd g53 37 x56) hq2_0 hq2_1.2.2.2.2.2.2.1 c3 c15 e19 c22 c37 (hw53.2.2.1.trans hw51.2.2.1) (hw53.2.2.2.2.2.1.trans hw51.2.2.2.2.2.1) (hw53.2.2.2.2.2.2.1.trans hw51.2.2.2.2.2.2.1) (hw53.2.2.2.2.2.2.2.2.1.trans hw51.2.2.2.2.2.2.2.2.1) (by show x56 = g2 37 + 1; rw [e56, show (g53 37) = g2 37 from (hw53.2.2.2.2.2.2.2.2.2.trans hw51.2.2.2.2.2.2.2.2.2)])).2) ⟨by rw [e58, show F53 0 = F2 0 from (hw53.2.2.2.2.1.trans hw51.2.2.2.2.1)]; exact (J_retry (t := 0) (g' := upd g53 37 x56) hq2_0 hq2_1.2.2.2.2.2.2.1 c3 c15 e19 c22 c37 (hw53.2.2.1.trans hw51.2.2.1) (hw53.2.2.2.2.2.1.trans hw51.2.2.2.2.2.1) (hw53.2.2.2.2.2.2.1.trans hw51.2.2.2.2.2.2.1) (hw53.2.2.2.2.2.2.2.2.1.trans hw51.2.2.2.2.2.2.2.2.1) (by show x56 = g2 37 + 1; rw [e56, show (g53 37) = g2 37 from (hw53.2.2.2.2.2.2.2.2.2.trans hw51.2.2.2.2.2.2.2.2.2)])).1, hI57, ((hw53.2.2.1.trans hw51.2.2.1)).trans hq2_2, ((hw53.2.2.2.1.trans hw51.2.2.2.1)).trans hq2_3, ((hw53.2.2.2.2.1.trans hw51.2.2.2.2.1)).trans hq2_4, hP, hD, hS, lv_sub hl [1, 0, 4] rfl⟩
                      · refine lv_iload hx hb dX7_call_152 (lv_at hl 0 rfl) ?_
                        refine lv_if_ne (tgt := 163) hx hb dX7_call_154 (by decide) (fun c59 => ?_) (fun c59 => ?_)
                        · refine lv_iload hx hb dX7_call_163 (lv_at hl 0 rfl) ?_
                          refine lv_if_eq (tgt := 213) hx hb dX7_call_165 (by decide) (fun c60 => ?_) (fun c60 => ?_)
                          · exact absurd c60 (by decide)
                          · refine lv_aload_n hx hb dX7_call_168 rfl (lv_at hl 4 rfl) ?_
                            refine lv_bipush (v := 31) hx hb dX7_call_169 (by decide) ?_
                            refine gc_vv (As := [.int 31]) (rest := []) (w0 := mw cI a g2 d2 F2) (wc := mw cI a g2 d2 F2) (wr := []) (wf := wfM cI a) ⟨hx, hb, hml, hown, hts⟩ hKK hok hP hD hS hA [0, 1, 2, 3, 4, 5, 6] [] rfl rfl (by decide) (s_X7_note l D cI a _ g2 d2 F2 31 hq2_1) (cwV 1 hts gX7_call_X7_note rfl rfl rfl (by decide +kernel) ⟨Nat.le_of_ble_eq_true rfl, Nat.le_of_ble_eq_true rfl⟩) (va_recv hK hP (ci := 7) (q0 := 0) rfl rfl) rfl hl.1 rfl (Nat.le_of_ble_eq_true rfl) dX7_call_171 ⟨Nat.le_of_ble_eq_true rfl, Nat.le_of_ble_eq_true rfl⟩ (fun u61 H locs hw61 hP hD hS => ?_)
                            obtain ⟨g61, d61, F61⟩ := u61
                            have hP : va_P D vwCl (mw cI a g61 d61 F61) H := hP
                            have hD : va_D A (mw cI a g61 d61 F61) := hD
                            refine lv_aload_n hx hb dX7_call_174 rfl (lv_at hl 4 rfl) ?_
                            refine lv_aload_n hx hb dX7_call_175 rfl (lv_at hl 4 rfl) ?_
                            refine gc_vi (As := []) (rest := [.ref ((a 0))]) (w0 := mw cI a g61 d61 F61) (wc := mw cI a g61 d61 F61) (wr := []) (wf := wfM cI a) ⟨hx, hb, hml, hown, hts⟩ hKK hok hP hD hS hA [0, 1, 2, 3, 4, 5, 6] [] rfl rfl (by decide) (s_X7_pause l D cI a _ g61 d61 F61 hw61.2.1) (cwV 0 hts gX7_call_X7_pause rfl rfl rfl (by decide +kernel) ⟨Nat.le_of_ble_eq_true rfl, Nat.le_of_ble_eq_true rfl⟩) (va_recv hK hP (ci := 7) (q0 := 0) rfl rfl) rfl hl.1 rfl (Nat.le_of_ble_eq_true rfl) dX7_call_176 ⟨Nat.le_of_ble_eq_true rfl, Nat.le_of_ble_eq_true rfl⟩ (fun r62 u62 H locs hw62 hP hD hS => ?_)
                            subst hw62
                            have hP : va_P D vwCl (mw cI a g61 d61 F61) H := hP
                            have hD : va_D A (mw cI a g61 d61 F61) := hD
                            refine gc_vi (As := [.int r62]) (rest := []) (w0 := mw cI a g61 d61 F61) (wc := mw cI a g61 d61 F61) (wr := []) (wf := wfM cI a) ⟨hx, hb, hml, hown, hts⟩ hKK hok hP hD hS hA [0, 1, 2, 3, 4, 5, 6] [] rfl rfl (by decide) (s_X7_lapse l D cI a _ g61 d61 F61 r62 hw61.2.1) (cwV 1 hts gX7_call_X7_lapse rfl rfl rfl (by decide +kernel) ⟨Nat.le_of_ble_eq_true rfl, Nat.le_of_ble_eq_true rfl⟩) (va_recv hK hP (ci := 7) (q0 := 0) rfl rfl) rfl hl.1 rfl (Nat.le_of_ble_eq_true rfl) dX7_call_179 ⟨Nat.le_of_ble_eq_true rfl, Nat.le_of_ble_eq_true rfl⟩ (fun r63 u63 H locs hw63 hP hD hS => ?_)
                            obtain ⟨g63, d63, F63⟩ := u63
                            have hP : va_P D vwCl (mw cI a g63 d63 F63) H := hP
                            have hD : va_D A (mw cI a g63 d63 F63) := hD
                            refine lv_if_eq (tgt := 204) hx hb dX7_call_182 (by decide) (fun c64 => ?_) (fun c64 => ?_)
                            · refine lv_iconst (v := 4) hx hb dX7_call_204 (by decide) ?_
                              refine lv_istore_n (lv' := [(2, .int 4), (4, .int 1), (3, .int x19), (1, .int y2_1), (0, .ref ((a 0)))]) hx hb dX7_call_205 rfl hl (by decide) rfl (fun ls hl => ?_)
                              refine lv_iload_n hx hb dX7_call_206 rfl (lv_at hl 3 rfl) ?_
                              refine lv_iconst (v := 1) hx hb dX7_call_207 (by decide) ?_
                              refine lv_iadd hx hb dX7_call_208 ?_
                              refine lv_topi (fun x65 e65 => ?_)
                              refine lv_istore_n (lv' := [(1, .int x65), (2, .int 4), (4, .int 1), (3, .int x19), (0, .ref ((a 0)))]) hx hb dX7_call_209 rfl hl (by decide) rfl (fun ls hl => ?_)
                              refine lv_goto (tgt := 217) hx hb dX7_call_210 (by decide) ?_
                              refine lv_goto (tgt := 9) hx hb dX7_call_217 (by decide) ?_
                              exact ih2 (x65, 4, g63, d63, F63) _ _ _ (by show Jm x65 4 g63 (F63 0) < Jm y2_1 y2_2 g2 (F2 0); rw [e65, show F63 0 = F2 0 from (hw63.2.2.2.2.1.trans hw61.2.2.2.2.1)]; exact (J_up (b2 := 4) hq2_0 hq2_1.2.2.2.2.2.2.1 c3 (by decide) c15 e19 (hw63.2.2.1.trans hw61.2.2.1) (hw63.2.2.2.2.2.1.trans hw61.2.2.2.2.2.1) (fun _ => ⟨(hw63.2.2.2.2.2.2.1.trans hw61.2.2.2.2.2.2.1), (hw63.2.2.2.2.2.2.2.2.1.trans hw61.2.2.2.2.2.2.2.2.1)⟩) (hw63.2.2.2.2.2.2.2.2.2.trans hw61.2.2.2.2.2.2.2.2.2)).2) ⟨by rw [e65, show F63 0 = F2 0 from (hw63.2.2.2.2.1.trans hw61.2.2.2.2.1)]; exact (J_up (b2 := 4) hq2_0 hq2_1.2.2.2.2.2.2.1 c3 (by decide) c15 e19 (hw63.2.2.1.trans hw61.2.2.1) (hw63.2.2.2.2.2.1.trans hw61.2.2.2.2.2.1) (fun _ => ⟨(hw63.2.2.2.2.2.2.1.trans hw61.2.2.2.2.2.2.1), (hw63.2.2.2.2.2.2.2.2.1.trans hw61.2.2.2.2.2.2.2.2.1)⟩) (hw63.2.2.2.2.2.2.2.2.2.trans hw61.2.2.2.2.2.2.2.2.2)).1, hw63.2.1, ((hw63.2.2.1.trans hw61.2.2.1)).trans hq2_2, ((hw63.2.2.2.1.trans hw61.2.2.2.1)).trans hq2_3, ((hw63.2.2.2.2.1.trans hw61.2.2.2.2.1)).trans hq2_4, hP, hD, hS, lv_sub hl [1, 0, 4] rfl⟩
                            · refine lv_aload_n hx hb dX7_call_185 rfl (lv_at hl 4 rfl) ?_
                              refine lv_aload_n hx hb dX7_call_186 rfl (lv_at hl 4 rfl) ?_
                              refine va_get (D := D) (ci := 7) (v := .int ((g63 37))) (C := RX7) (T := TX7) (N := 41) hx hb hts hi7 hown hK hP 0 rfl rfl 37 (by decide) (hts (.fieldLink RX7 151 "GuardedCallsModel" "tried" "I") (by decide +kernel)) (fun _ h9 => h9) rfl dX7_call_187 ?_
                              refine lv_iconst (v := 1) hx hb dX7_call_190 (by decide) ?_
                              refine lv_iadd hx hb dX7_call_191 ?_
                              refine lv_topi (fun x66 e66 => ?_)
                              refine va_put (D := D) (ci := 7) (v := .int x66) (ty := .int) (C := RX7) (T := TX7) (N := 41) hx hb hts hi7 tyX7 tyX7_ok nmX7 hown hK hP hD hS 0 rfl rfl 37 (by decide) (hts (.fieldLink RX7 151 "GuardedCallsModel" "tried" "I") (by decide +kernel)) (fun _ h9 => h9) rfl (by decide +kernel) rfl rfl (Nat.le_of_ble_eq_true rfl) dX7_call_192 (fun H locs hP hD hS => ?_)
                              have hP : va_P D vwCl (mw cI a (upd g63 37 x66) d63 F63) H := hP
                              have hD : va_D A (mw cI a (upd g63 37 x66) d63 F63) := hD
                              have hI67 : MI (upd g63 37 x66) d63 F63 := ⟨hw63.2.1.1, hw63.2.1.2.1, hw63.2.1.2.2.1, hw63.2.1.2.2.2.1, hw63.2.1.2.2.2.2.1, hw63.2.1.2.2.2.2.2.1, hw63.2.1.2.2.2.2.2.2.1, by show 0 ≤ (x66).toInt; rw [e66, show (g63 37) = g2 37 from (hw63.2.2.2.2.2.2.2.2.2.trans hw61.2.2.2.2.2.2.2.2.2), i_inc c37]; have := hq2_1.2.2.2.2.2.2.2.1; omega, hw63.2.1.2.2.2.2.2.2.2.2⟩
                              refine lv_iconst (v := (-1)) hx hb dX7_call_195 (by decide) ?_
                              refine lv_istore_n (lv' := [(2, .int ((-1))), (4, .int 1), (3, .int x19), (1, .int y2_1), (0, .ref ((a 0)))]) hx hb dX7_call_196 rfl hl (by decide) rfl (fun ls hl => ?_)
                              refine lv_iload_n hx hb dX7_call_197 rfl (lv_at hl 3 rfl) ?_
                              refine lv_iconst (v := 1) hx hb dX7_call_198 (by decide) ?_
                              refine lv_isub hx hb dX7_call_199 ?_
                              refine lv_topi (fun x68 e68 => ?_)
                              refine lv_istore_n (lv' := [(1, .int x68), (2, .int ((-1))), (4, .int 1), (3, .int x19), (0, .ref ((a 0)))]) hx hb dX7_call_200 rfl hl (by decide) rfl (fun ls hl => ?_)
                              refine lv_goto (tgt := 217) hx hb dX7_call_201 (by decide) ?_
                              refine lv_goto (tgt := 9) hx hb dX7_call_217 (by decide) ?_
                              exact ih2 (x68, ((-1)), upd g63 37 x66, d63, F63) _ _ _ (by show Jm x68 ((-1)) (upd g63 37 x66) (F63 0) < Jm y2_1 y2_2 g2 (F2 0); rw [e68, show F63 0 = F2 0 from (hw63.2.2.2.2.1.trans hw61.2.2.2.2.1)]; exact (J_retry (t := 0) (g' := upd g63 37 x66) hq2_0 hq2_1.2.2.2.2.2.2.1 c3 c15 e19 c22 c37 (hw63.2.2.1.trans hw61.2.2.1) (hw63.2.2.2.2.2.1.trans hw61.2.2.2.2.2.1) (hw63.2.2.2.2.2.2.1.trans hw61.2.2.2.2.2.2.1) (hw63.2.2.2.2.2.2.2.2.1.trans hw61.2.2.2.2.2.2.2.2.1) (by show x66 = g2 37 + 1; rw [e66, show (g63 37) = g2 37 from (hw63.2.2.2.2.2.2.2.2.2.trans hw61.2.2.2.2.2.2.2.2.2)])).2) ⟨by rw [e68, show F63 0 = F2 0 from (hw63.2.2.2.2.1.trans hw61.2.2.2.2.1)]; exact (J_retry (t := 0) (g' := upd g63 37 x66) hq2_0 hq2_1.2.2.2.2.2.2.1 c3 c15 e19 c22 c37 (hw63.2.2.1.trans hw61.2.2.1) (hw63.2.2.2.2.2.1.trans hw61.2.2.2.2.2.1) (hw63.2.2.2.2.2.2.1.trans hw61.2.2.2.2.2.2.1) (hw63.2.2.2.2.2.2.2.2.1.trans hw61.2.2.2.2.2.2.2.2.1) (by show x66 = g2 37 + 1; rw [e66, show (g63 37) = g2 37 from (hw63.2.2.2.2.2.2.2.2.2.trans hw61.2.2.2.2.2.2.2.2.2)])).1, hI67, ((hw63.2.2.1.trans hw61.2.2.1)).trans hq2_2, ((hw63.2.2.2.1.trans hw61.2.2.2.1)).trans hq2_3, ((hw63.2.2.2.2.1.trans hw61.2.2.2.2.1)).trans hq2_4, hP, hD, hS, lv_sub hl [1, 0, 4] rfl⟩
                        · exact absurd c59 (by decide)
            · refine lv_aload_n hx hb dX7_call_102 rfl (lv_at hl 3 rfl) ?_
              refine lv_ldc (v := 2000000000) hx hb hown (hts (.constant RX7 92 (2000000000)) (by decide +kernel)) dX7_call_103 ?_
              refine va_put (D := D) (ci := 7) (v := .int 2000000000) (ty := .int) (C := RX7) (T := TX7) (N := 41) hx hb hts hi7 tyX7 tyX7_ok nmX7 hown hK hP hD hS 0 rfl rfl 2 (by decide) (hts (.fieldLink RX7 93 "GuardedCallsModel" "deadline" "I") (by decide +kernel)) (fun _ h9 => h9) rfl (by decide +kernel) rfl rfl (Nat.le_of_ble_eq_true rfl) dX7_call_105 (fun H locs hP hD hS => ?_)
              have hP : va_P D vwCl (mw cI a (upd g2 2 2000000000) d2 F2) H := hP
              have hD : va_D A (mw cI a (upd g2 2 2000000000) d2 F2) := hD
              refine lv_iload_n hx hb dX7_call_108 rfl (lv_at hl 0 rfl) ?_
              refine lv_iconst (v := 3) hx hb dX7_call_109 (by decide) ?_
              refine lv_icmp_ne (tgt := 136) hx hb dX7_call_110 (by decide) (fun c69 => ?_) (fun c69 => ?_)
              · refine lv_iconst (v := 0) hx hb dX7_call_136 (by decide) ?_
                refine lv_istore (lv' := [(4, .int 0), (3, .int x19), (2, .int y2_2), (1, .int y2_1), (0, .ref ((a 0)))]) hx hb dX7_call_137 hl (by decide) rfl (fun ls hl => ?_)
                refine lv_iload_n hx hb dX7_call_139 rfl (lv_at hl 1 rfl) ?_
                refine lv_iconst (v := 3) hx hb dX7_call_140 (by decide) ?_
                refine lv_icmp_ne (tgt := 163) hx hb dX7_call_141 (by decide) (fun c70 => ?_) (fun c70 => ?_)
                · refine lv_iload hx hb dX7_call_163 (lv_at hl 0 rfl) ?_
                  refine lv_if_eq (tgt := 213) hx hb dX7_call_165 (by decide) (fun c71 => ?_) (fun c71 => ?_)
                  · refine lv_iload_n hx hb dX7_call_213 rfl (lv_at hl 3 rfl) ?_
                    refine lv_iconst (v := 1) hx hb dX7_call_214 (by decide) ?_
                    refine lv_iadd hx hb dX7_call_215 ?_
                    refine lv_topi (fun x72 e72 => ?_)
                    refine lv_istore_n (lv' := [(1, .int x72), (4, .int 0), (3, .int x19), (2, .int y2_2), (0, .ref ((a 0)))]) hx hb dX7_call_216 rfl hl (by decide) rfl (fun ls hl => ?_)
                    refine lv_goto (tgt := 9) hx hb dX7_call_217 (by decide) ?_
                    exact ih2 (x72, y2_2, upd g2 2 2000000000, d2, F2) _ _ _ (by show Jm x72 y2_2 (upd g2 2 2000000000) (F2 0) < Jm y2_1 y2_2 g2 (F2 0); rw [e72, show F2 0 = F2 0 from rfl]; exact (J_up (b2 := y2_2) hq2_0 hq2_1.2.2.2.2.2.2.1 c3 c3 c15 e19 rfl rfl (fun _ => ⟨rfl, rfl⟩) rfl).2) ⟨by rw [e72, show F2 0 = F2 0 from rfl]; exact (J_up (b2 := y2_2) hq2_0 hq2_1.2.2.2.2.2.2.1 c3 c3 c15 e19 rfl rfl (fun _ => ⟨rfl, rfl⟩) rfl).1, hq2_1, (rfl).trans hq2_2, (rfl).trans hq2_3, (rfl).trans hq2_4, hP, hD, hS, lv_sub hl [3, 0, 4] rfl⟩
                  · exact absurd c71 (by decide)
                · exact absurd c70 c69
              · exact absurd (by rw [c69]; decide) c21
          · refine lv_aload_n hx hb dX7_call_92 rfl (lv_at hl 3 rfl) ?_
            refine lv_iload_n hx hb dX7_call_93 rfl (lv_at hl 1 rfl) ?_
            refine gc_vv (As := [.int y2_2]) (rest := []) (w0 := mw cI a g2 d2 F2) (wc := mw cI a g2 d2 F2) (wr := []) (wf := wfM cI a) ⟨hx, hb, hml, hown, hts⟩ hKK hok hP hD hS hA [0, 1, 2, 3, 4, 5, 6] [] rfl rfl (by decide) (s_X7_judge l D cI a _ g2 d2 F2 y2_2 hq2_1 (J_tok hq2_0 hq2_1.2.2.2.2.2.2.1 c3 c15 e19 c20)) (cwV 1 hts gX7_call_X7_judge rfl rfl rfl (by decide +kernel) ⟨Nat.le_of_ble_eq_true rfl, Nat.le_of_ble_eq_true rfl⟩) (va_recv hK hP (ci := 7) (q0 := 0) rfl rfl) rfl hl.1 rfl (Nat.le_of_ble_eq_true rfl) dX7_call_94 ⟨Nat.le_of_ble_eq_true rfl, Nat.le_of_ble_eq_true rfl⟩ (fun u73 H locs hw73 hP hD hS => ?_)
            obtain ⟨g73, d73, F73⟩ := u73
            have hP : va_P D vwCl (mw cI a g73 d73 F73) H := hP
            have hD : va_D A (mw cI a g73 d73 F73) := hD
            refine lv_iload_n hx hb dX7_call_97 rfl (lv_at hl 0 rfl) ?_
            refine lv_iconst (v := 3) hx hb dX7_call_98 (by decide) ?_
            refine lv_icmp_le (tgt := 108) hx hb dX7_call_99 (by decide) (fun c74 => ?_) (fun c74 => ?_)
            · refine lv_iload_n hx hb dX7_call_108 rfl (lv_at hl 0 rfl) ?_
              refine lv_iconst (v := 3) hx hb dX7_call_109 (by decide) ?_
              refine lv_icmp_ne (tgt := 136) hx hb dX7_call_110 (by decide) (fun c75 => ?_) (fun c75 => ?_)
              · refine lv_iconst (v := 0) hx hb dX7_call_136 (by decide) ?_
                refine lv_istore (lv' := [(4, .int 0), (3, .int x19), (2, .int y2_2), (1, .int y2_1), (0, .ref ((a 0)))]) hx hb dX7_call_137 hl (by decide) rfl (fun ls hl => ?_)
                refine lv_iload_n hx hb dX7_call_139 rfl (lv_at hl 1 rfl) ?_
                refine lv_iconst (v := 3) hx hb dX7_call_140 (by decide) ?_
                refine lv_icmp_ne (tgt := 163) hx hb dX7_call_141 (by decide) (fun c76 => ?_) (fun c76 => ?_)
                · refine lv_iload hx hb dX7_call_163 (lv_at hl 0 rfl) ?_
                  refine lv_if_eq (tgt := 213) hx hb dX7_call_165 (by decide) (fun c77 => ?_) (fun c77 => ?_)
                  · refine lv_iload_n hx hb dX7_call_213 rfl (lv_at hl 3 rfl) ?_
                    refine lv_iconst (v := 1) hx hb dX7_call_214 (by decide) ?_
                    refine lv_iadd hx hb dX7_call_215 ?_
                    refine lv_topi (fun x78 e78 => ?_)
                    refine lv_istore_n (lv' := [(1, .int x78), (4, .int 0), (3, .int x19), (2, .int y2_2), (0, .ref ((a 0)))]) hx hb dX7_call_216 rfl hl (by decide) rfl (fun ls hl => ?_)
                    refine lv_goto (tgt := 9) hx hb dX7_call_217 (by decide) ?_
                    exact ih2 (x78, y2_2, g73, d73, F73) _ _ _ (by show Jm x78 y2_2 g73 (F73 0) < Jm y2_1 y2_2 g2 (F2 0); rw [e78, show F73 0 = F2 0 from hw73.2.2.2.2.1]; exact (J_up (b2 := y2_2) hq2_0 hq2_1.2.2.2.2.2.2.1 c3 c3 c15 e19 hw73.2.2.1 hw73.2.2.2.2.2.1 (fun e => absurd c20 e) hw73.2.2.2.2.2.2).2) ⟨by rw [e78, show F73 0 = F2 0 from hw73.2.2.2.2.1]; exact (J_up (b2 := y2_2) hq2_0 hq2_1.2.2.2.2.2.2.1 c3 c3 c15 e19 hw73.2.2.1 hw73.2.2.2.2.2.1 (fun e => absurd c20 e) hw73.2.2.2.2.2.2).1, hw73.2.1, (hw73.2.2.1).trans hq2_2, (hw73.2.2.2.1).trans hq2_3, (hw73.2.2.2.2.1).trans hq2_4, hP, hD, hS, lv_sub hl [3, 0, 4] rfl⟩
                  · exact absurd c77 (by decide)
                · exact absurd c76 c75
              · exact absurd (c75.symm.trans c20) (by decide)
            · exact absurd (by rw [c20]; decide) c74
        · exact absurd (nlt_le c3) c18
      · exact absurd (nlt_le c3) c17
