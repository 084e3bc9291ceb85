theorem bw_r {v lo hi : Int32} {x y : Int} (hx : lo.toInt = x) (hy : hi.toInt = y) (h : ¬ bw v lo hi = 0) : x ≤ v.toInt ∧ v.toInt ≤ y := by
  have := bw_rng h
  omega
theorem cl_N1 {v w : UInt64} (h : ¬ Op.cmpValue (FP.dcmp v w) .l < 0) : N1 v := by
  intro hv
  rw [cv_nan hv] at h
  exact h (by decide)
theorem bb_of {v lo hi : UInt64} (h1 : ¬ Op.cmpValue (FP.dcmp v lo) .l < 0) (h2 : ¬ 0 < Op.cmpValue (FP.dcmp v hi) .g) : ¬ bb v lo hi = 0 := by
  unfold bb
  rw [if_neg h1, if_neg h2]
  decide
set_option maxHeartbeats 4000000 in
set_option maxRecDepth 100000 in
theorem pigeonB : ∀ x0 x1 x2 x3 x4 k : Fin 5, (x0 == x1 || x0 == x2 || x0 == x3 || x0 == x4 || x1 == x2 || x1 == x3 || x1 == x4 || x2 == x3 || x2 == x4 || x3 == x4 || x0 == k || x1 == k || x2 == k || x3 == k || x4 == k) = true := by decide +kernel
theorem pigeon (x0 x1 x2 x3 x4 k : Fin 5) (h0 : x0 ≠ x1) (h1 : x0 ≠ x2) (h2 : x0 ≠ x3) (h3 : x0 ≠ x4) (h4 : x1 ≠ x2) (h5 : x1 ≠ x3) (h6 : x1 ≠ x4) (h7 : x2 ≠ x3) (h8 : x2 ≠ x4) (h9 : x3 ≠ x4) (h10 : x0 ≠ k) (h11 : x1 ≠ k) (h12 : x2 ≠ k) (h13 : x3 ≠ k) (h14 : x4 ≠ k) : False := by
  have h := pigeonB x0 x1 x2 x3 x4 k
  simp [h0, h1, h2, h3, h4, h5, h6, h7, h8, h9, h10, h11, h12, h13, h14] at h
theorem fin5 {x : Int32} (h : 0 ≤ x.toInt ∧ x.toInt ≤ 4) : ∃ q : Fin 5, x.toInt = (q.val : Int) := ⟨⟨x.toInt.toNat, by omega⟩, by show x.toInt = (x.toInt.toNat : Int); omega⟩
theorem stk_room {h k : Int32} {f : Nat → Int32} (hS : Stk h f) (hk : 0 ≤ k.toInt ∧ k.toInt ≤ 4) (hn : ∀ j : Nat, (j : Int) < h.toInt → f j ≠ k) : h.toInt < 5 := by
  apply Decidable.byContradiction
  intro hc
  have h5 : h.toInt = 5 := by have := hS.2.1; omega
  obtain ⟨-, -, hr, hd⟩ := hS
  rw [h5] at hr hd hn
  obtain ⟨q0, e0⟩ := fin5 (hr 0 (by decide))
  obtain ⟨q1, e1⟩ := fin5 (hr 1 (by decide))
  obtain ⟨q2, e2⟩ := fin5 (hr 2 (by decide))
  obtain ⟨q3, e3⟩ := fin5 (hr 3 (by decide))
  obtain ⟨q4, e4⟩ := fin5 (hr 4 (by decide))
  obtain ⟨qk, ek⟩ := fin5 hk
  have ne : ∀ {x y : Int32} {p q : Fin 5}, x.toInt = (p.val : Int) → y.toInt = (q.val : Int) → x ≠ y → p ≠ q := fun ex ey hxy e => hxy (Int32.toInt_inj.mp (by rw [ex, ey, e]))
  have nd : ∀ i j : Nat, (i : Int) < 5 → (j : Int) < 5 → i ≠ j → f i ≠ f j := fun i j hi hj hij e => hij (hd i j hi hj e)
  exact pigeon q0 q1 q2 q3 q4 qk (ne e0 e1 (nd 0 1 (by decide) (by decide) (by decide))) (ne e0 e2 (nd 0 2 (by decide) (by decide) (by decide))) (ne e0 e3 (nd 0 3 (by decide) (by decide) (by decide))) (ne e0 e4 (nd 0 4 (by decide) (by decide) (by decide))) (ne e1 e2 (nd 1 2 (by decide) (by decide) (by decide))) (ne e1 e3 (nd 1 3 (by decide) (by decide) (by decide))) (ne e1 e4 (nd 1 4 (by decide) (by decide) (by decide))) (ne e2 e3 (nd 2 3 (by decide) (by decide) (by decide))) (ne e2 e4 (nd 2 4 (by decide) (by decide) (by decide))) (ne e3 e4 (nd 3 4 (by decide) (by decide) (by decide))) (ne e0 ek (hn 0 (by decide))) (ne e1 ek (hn 1 (by decide))) (ne e2 ek (hn 2 (by decide))) (ne e3 ek (hn 3 (by decide))) (ne e4 ek (hn 4 (by decide)))
theorem stk_up {h k : Int32} {f : Nat → Int32} (hS : Stk h f) (hk : 0 ≤ k.toInt ∧ k.toInt ≤ 4) (hn : ∀ j : Nat, (j : Int) < h.toInt → f j ≠ k) : Stk (h + 1) (upd f h.toNatClampNeg k) := by
  have h5 := stk_room hS hk hn
  obtain ⟨j, hj, rfl⟩ := vp_in_of (vp_in_iff.mpr ⟨hS.1, h5⟩ : vp_in h 5) (by decide)
  obtain ⟨-, -, hr, hd⟩ := hS
  rw [nI_clamp (by omega), nI_1]
  have e1 : (nI j).toInt = (j : Int) := nI_toInt (by omega)
  have e2 : (nI (j + 1)).toInt = ((j + 1 : Nat) : Int) := nI_toInt (by omega)
  rw [e1] at hr hd hn
  refine ⟨by rw [e2]; omega, by rw [e2]; omega, fun i hi => ?_, fun i i2 hi hi2 he => ?_⟩
  · rw [e2] at hi
    unfold upd
    split
    · exact hk
    · exact hr i (by omega)
  · rw [e2] at hi hi2
    unfold upd at he
    by_cases c1 : i = j
    · by_cases c2 : i2 = j
      · omega
      · rw [if_pos c1, if_neg c2] at he
        exact absurd he.symm (hn i2 (by omega))
    · by_cases c2 : i2 = j
      · rw [if_neg c1, if_pos c2] at he
        exact absurd he (hn i (by omega))
      · rw [if_neg c1, if_neg c2] at he
        exact hd i i2 (by omega) (by omega) he
theorem lay_next {k kd t : Int32} {f : Nat → Int32} (h0 : 0 ≤ k.toInt) (ht : ¬ t ≤ k) (h5 : t.toInt ≤ 5) (h : ∀ j : Nat, (j : Int) < k.toInt → f j ≠ kd) (hk : ¬ f k.toNatClampNeg = kd) : ∀ j : Nat, (j : Int) < (k + 1).toInt → f j ≠ kd := by
  have h1 := i_lt ht
  intro j hj
  rw [i_inc ht] at hj
  by_cases c : (j : Int) < k.toInt
  · exact h j c
  · obtain ⟨q, hq, rfl⟩ := vp_in_of (vp_in_iff.mpr ⟨h0, by omega⟩ : vp_in k 5) (by decide)
    rw [nI_clamp (by omega)] at hk
    have e1 : (nI q).toInt = (q : Int) := nI_toInt (by omega)
    have : j = q := by omega
    rw [this]
    exact hk
theorem stk_0 {f : Nat → Int32} : Stk 0 f := ⟨by decide, by decide, fun i hi => by rw [show (0 : Int32).toInt = 0 from rfl] at hi; omega, fun i j hi => by rw [show (0 : Int32).toInt = 0 from rfl] at hi; omega⟩
theorem ev_in {k t : Int32} (ht : 0 ≤ t.toInt ∧ t.toInt ≤ 8) (h : ¬ bw k 0 (t - 1) = 0) : vp_in k 8 := by
  have h1 := bw_rng h
  have h2 : (t - 1).toInt = t.toInt - 1 := i_decS (by omega) (by omega)
  rw [show (0 : Int32).toInt = 0 from rfl] at h1
  exact vp_in_iff.mpr ⟨by omega, by omega⟩
def spm (u n : Int32) : Int32 := if bw n (-9) 9 = 0 then 0 else if bw (u + n) 0 9 = 0 then 0 else 1
set_option maxHeartbeats 4000000 in
set_option maxRecDepth 100000 in
theorem s_X7_lay (l : Launch) (D : va_G) (cI : ClassId) (a : Nat → Nat) (sz : Nat) (g : Nat → Int32) (d : Nat → UInt64) (F : Nat → Nat → Int32) (p_k : Int32) (hI : MI g d F) : Met l yX7_lay wsX7_lay ({ frames := 1, cells := 0, slots := 0, locals := 22 }) (gP (KM D cI) D (mw cI a g d F) sz [.ref (a 0), .int p_k]) (va_Qi (fun (r : Int32) (u : SS) => MI u.1 u.2.1 u.2.2 ∧ u.1 26 = g 26) (gB D (wfM cI a) (va_A (mw cI a g d F) sz)) (va_A (mw cI a g d F) sz)) 0 0 (va_A (mw cI a g d F) sz) := by
  refine Met.ofW (cc := cX7_lay) (maxL := 4) (ret := (some .int)) (by decide) rfl ?_
  intro p e s m args below meth c s₁ B hml hv
  obtain ⟨rfl, hsz, hP, hD0, hKK⟩ := hv
  have hx := B.exec
  have hb := B.bytes
  have hr := B.returns
  have hts := atoms_spec (ws := wsX7_lay) B.pre
  have hown : s.vm.findClass RX7 = some m.cls := findClass_of_methodNamed B.named
  have hlocks := B.notSynchronized
  subst hsz
  have hK := hKK.1
  have hok := KM_ok D cI
  have hD := hD0.self (sz := s.heap.size)
  generalize hAe : va_A (mw cI a g d F) s.heap.size = A at hD ⊢
  have hi7 : ∀ w ∈ wsX70, w ∈ wsX7_lay := fun w h => List.mem_cons_of_mem _ (List.mem_append_right _ h)
  have hA : ∀ q : Nat, s.heap.size ≤ q → A q := fun q h => by rw [← hAe]; exact Or.inr h
  have hS : va_S A s.heap s.heap [] := va_S.rf
  have hP : va_P D vwCl (mw cI a g d F) s.heap := hP
  have hl := lv_entry ([.ref ((a 0)), .int p_k]) (n := 4) (Nat.le_of_ble_eq_true rfl)
  rw [lg_entry_eq]
  generalize (lg_sl ([.ref ((a 0)), .int p_k]) ++ List.replicate (4 - (lg_sl ([.ref ((a 0)), .int p_k])).length) Slot.unset).toArray = ls at hl ⊢
  have hl : lv_has ls 4 [(0, .ref ((a 0))), (1, .int p_k)] := hl
  refine lv_aload_n hx hb dX7_lay_0 rfl (lv_at hl 0 rfl) ?_
  refine lv_iconst (v := 0) hx hb dX7_lay_1 (by decide) ?_
  refine va_put (D := D) (ci := 7) (v := .int 0) (ty := .int) (C := RX7) (T := TX7) (N := 41) hx hb hts hi7 tyX7 tyX7_ok nmX7 hown hK hP hD hS 0 rfl rfl 0 (by decide) (hts (.fieldLink RX7 96 "GuardedCallsModel" "thrown" "I") (by decide +kernel)) (fun _ h9 => h9) rfl (by decide +kernel) rfl rfl (Nat.le_of_ble_eq_true rfl) dX7_lay_2 (fun H locs hP hD hS => ?_)
  have hP : va_P D vwCl (mw cI a (upd g 0 0) d F) H := hP
  have hD : va_D A (mw cI a (upd g 0 0) d F) := hD
  refine lv_iconst (v := 0) hx hb dX7_lay_5 (by decide) ?_
  refine lv_istore_n (lv' := [(2, .int 0), (0, .ref ((a 0))), (1, .int p_k)]) hx hb dX7_lay_6 rfl hl (by decide) rfl (fun ls hl => ?_)
  refine lv_iconst (v := 0) hx hb dX7_lay_7 (by decide) ?_
  refine lv_istore_n (lv' := [(3, .int 0), (2, .int 0), (0, .ref ((a 0))), (1, .int p_k)]) hx hb dX7_lay_8 rfl hl (by decide) rfl (fun ls hl => ?_)
  refine gl_loop (σ := Int32 × Int32) (μ := fun q => match q with | (y1_2, y1_3) => (6 - (y1_3).toInt).toNat) (Inv := fun q H locs ls => match q with | (y1_2, y1_3) => 0 ≤ (y1_3).toInt ∧ (y1_2 = 0 ∨ y1_2 = 1) ∧ (y1_2 = 0 → ∀ j : Nat, (j : Int) < (y1_3).toInt → F 0 j ≠ p_k) ∧ va_P D vwCl (mw cI a (upd g 0 0) d F) H ∧ va_D A (mw cI a (upd g 0 0) d F) ∧ va_S A s.heap H locs ∧ lv_has ls 4 [(3, .int y1_3), (2, .int y1_2), (0, .ref ((a 0))), (1, .int p_k)]) (fun q H locs ls hv ih1 => ?_) (0, 0) _ _ _ ⟨by decide, Or.inl rfl, fun _ j hj => by rw [show (0 : Int32).toInt = 0 from rfl] at hj; omega, hP, hD, hS, lv_sub hl [0, 1, 2, 3] rfl⟩
  obtain ⟨y1_2, y1_3⟩ := q
  obtain ⟨hq1_0, hq1_1, hq1_2, hP, hD, hS, hl⟩ := hv
  refine lv_iload_n hx hb dX7_lay_9 rfl (lv_at hl 0 rfl) ?_
  refine lv_aload_n hx hb dX7_lay_10 rfl (lv_at hl 2 rfl) ?_
  refine va_get (D := D) (ci := 7) (v := .int ((g 3))) (C := RX7) (T := TX7) (N := 41) hx hb hts hi7 hown hK hP 0 rfl rfl 3 (by decide) (hts (.fieldLink RX7 174 "GuardedCallsModel" "height" "I") (by decide +kernel)) (fun _ h9 => h9) rfl dX7_lay_11 ?_
  refine lv_icmp_ge (tgt := 43) hx hb dX7_lay_14 (by decide) (fun c2 => ?_) (fun c2 => ?_)
  · refine lv_iload_n hx hb dX7_lay_43 rfl (lv_at hl 3 rfl) ?_
    refine lv_iconst (v := 0) hx hb dX7_lay_44 (by decide) ?_
    refine lv_iconst (v := 4) hx hb dX7_lay_45 (by decide) ?_
    refine gc_si (As := [.int p_k, .int 0, .int 4]) (rest := []) ⟨hx, hb, hml, hown, hts⟩ hP hD hS hA (c_X7_in l _ p_k 0 4) (va_cwS 3 hts gX7_lay_X7_in rfl rfl rfl (by decide +kernel) ⟨Nat.le_of_ble_eq_true rfl, Nat.le_of_ble_eq_true rfl⟩) rfl hl.1 rfl (Nat.le_of_ble_eq_true rfl) dX7_lay_46 ⟨Nat.le_of_ble_eq_true rfl, Nat.le_of_ble_eq_true rfl⟩ (fun r3 H locs hw3 hP hS => ?_)
    subst hw3
    refine lv_if_eq (tgt := 56) hx hb dX7_lay_49 (by decide) (fun c4 => ?_) (fun c4 => ?_)
    · refine lv_iconst (v := (-1)) hx hb dX7_lay_56 (by decide) ?_
      exact W.iret (v := ((-1))) hx hb hr (fun t ht hW => ⟨⟨_, (upd g 0 0, d, F), rfl, ⟨hI, rfl⟩, by rw [ht]; exact hP, hD⟩, hS.F ht⟩) hS.2.2 dX7_lay_57
    · refine lv_iload_n hx hb dX7_lay_52 rfl (lv_at hl 1 rfl) ?_
      refine lv_if_eq (tgt := 58) hx hb dX7_lay_53 (by decide) (fun c5 => ?_) (fun c5 => ?_)
      · refine lv_aload_n hx hb dX7_lay_58 rfl (lv_at hl 2 rfl) ?_
        refine va_get (D := D) (ci := 7) (v := .ref ((a 1))) (C := RX7) (T := TX7) (N := 41) hx hb hts hi7 hown hK hP 0 rfl rfl 4 (by decide) (hts (.fieldLink RX7 7 "GuardedCallsModel" "stack" "[I") (by decide +kernel)) (fun _ h9 => h9) rfl dX7_lay_59 ?_
        refine lv_aload_n hx hb dX7_lay_62 rfl (lv_at hl 2 rfl) ?_
        refine va_get (D := D) (ci := 7) (v := .int ((g 3))) (C := RX7) (T := TX7) (N := 41) hx hb hts hi7 hown hK hP 0 rfl rfl 3 (by decide) (hts (.fieldLink RX7 174 "GuardedCallsModel" "height" "I") (by decide +kernel)) (fun _ h9 => h9) rfl dX7_lay_63 ?_
        refine lv_iload_n hx hb dX7_lay_66 rfl (lv_at hl 3 rfl) ?_
        refine va_iast (D := D) hx hb hK hP hD hS 1 0 (f := (F 0)) (n := 5) rfl rfl (vp_in_iff.mpr ⟨hI.2.2.2.2.2.2.1.1, stk_room hI.2.2.2.2.2.2.1 (bw_r (x := 0) (y := 4) rfl rfl c4) (fun j hj => (hq1_2 c5) j (by have := Int32.le_iff_toInt_le.mp c2; omega))⟩) dX7_lay_67 (fun H locs hP hD hS => ?_)
        have hP : va_P D vwCl (mw cI a (upd g 0 0) d (vf_upd F 0 (upd (F 0) ((g 3)).toNatClampNeg p_k))) H := hP
        have hD : va_D A (mw cI a (upd g 0 0) d (vf_upd F 0 (upd (F 0) ((g 3)).toNatClampNeg p_k))) := hD
        refine lv_aload_n hx hb dX7_lay_68 rfl (lv_at hl 2 rfl) ?_
        refine lv_aload_n hx hb dX7_lay_69 rfl (lv_at hl 2 rfl) ?_
        refine va_get (D := D) (ci := 7) (v := .int ((g 3))) (C := RX7) (T := TX7) (N := 41) hx hb hts hi7 hown hK hP 0 rfl rfl 3 (by decide) (hts (.fieldLink RX7 174 "GuardedCallsModel" "height" "I") (by decide +kernel)) (fun _ h9 => h9) rfl dX7_lay_70 ?_
        refine lv_iconst (v := 1) hx hb dX7_lay_73 (by decide) ?_
        refine lv_iadd hx hb dX7_lay_74 ?_
        refine lv_topi (fun x6 e6 => ?_)
        refine va_put (D := D) (ci := 7) (v := .int x6) (ty := .int) (C := RX7) (T := TX7) (N := 41) hx hb hts hi7 tyX7 tyX7_ok nmX7 hown hK hP hD hS 0 rfl rfl 3 (by decide) (hts (.fieldLink RX7 174 "GuardedCallsModel" "height" "I") (by decide +kernel)) (fun _ h9 => h9) rfl (by decide +kernel) rfl rfl (Nat.le_of_ble_eq_true rfl) dX7_lay_75 (fun H locs hP hD hS => ?_)
        have hP : va_P D vwCl (mw cI a (upd (upd g 0 0) 3 x6) d (vf_upd F 0 (upd (F 0) ((g 3)).toNatClampNeg p_k))) H := hP
        have hD : va_D A (mw cI a (upd (upd g 0 0) 3 x6) d (vf_upd F 0 (upd (F 0) ((g 3)).toNatClampNeg p_k))) := hD
        have hI7 : MI (upd (upd g 0 0) 3 x6) d (vf_upd F 0 (upd (F 0) ((g 3)).toNatClampNeg p_k)) := ⟨hI.1, hI.2.1, hI.2.2.1, hI.2.2.2.1, hI.2.2.2.2.1, hI.2.2.2.2.2.1, by show Stk x6 (upd (F 0) (g 3).toNatClampNeg p_k); rw [e6]; exact stk_up hI.2.2.2.2.2.2.1 (bw_r (x := 0) (y := 4) rfl rfl c4) (fun j hj => (hq1_2 c5) j (by have := Int32.le_iff_toInt_le.mp c2; omega)), hI.2.2.2.2.2.2.2.1, hI.2.2.2.2.2.2.2.2⟩
        refine lv_aload_n hx hb dX7_lay_78 rfl (lv_at hl 2 rfl) ?_
        refine va_get (D := D) (ci := 7) (v := .int x6) (C := RX7) (T := TX7) (N := 41) hx hb hts hi7 hown hK hP 0 rfl rfl 3 (by decide) (hts (.fieldLink RX7 174 "GuardedCallsModel" "height" "I") (by decide +kernel)) (fun _ h9 => h9) rfl dX7_lay_79 ?_
        exact W.iret (v := x6) hx hb hr (fun t ht hW => ⟨⟨_, (upd (upd g 0 0) 3 x6, d, vf_upd F 0 (upd (F 0) ((g 3)).toNatClampNeg p_k)), rfl, ⟨hI7, rfl⟩, by rw [ht]; exact hP, hD⟩, hS.F ht⟩) hS.2.2 dX7_lay_82
      · refine lv_iconst (v := (-1)) hx hb dX7_lay_56 (by decide) ?_
        exact W.iret (v := ((-1))) hx hb hr (fun t ht hW => ⟨⟨_, (upd g 0 0, d, F), rfl, ⟨hI, rfl⟩, by rw [ht]; exact hP, hD⟩, hS.F ht⟩) hS.2.2 dX7_lay_57
  · refine lv_iload_n hx hb dX7_lay_17 rfl (lv_at hl 1 rfl) ?_
    refine lv_if_ne (tgt := 31) hx hb dX7_lay_18 (by decide) (fun c8 => ?_) (fun c8 => ?_)
    · refine lv_iconst (v := 1) hx hb dX7_lay_31 (by decide) ?_
      refine lv_goto (tgt := 36) hx hb dX7_lay_32 (by decide) ?_
      refine lv_istore_n (lv' := [(2, .int 1), (3, .int y1_3), (0, .ref ((a 0))), (1, .int p_k)]) hx hb dX7_lay_36 rfl hl (by decide) rfl (fun ls hl => ?_)
      obtain ⟨x9, e9⟩ : ∃ y : Int32, y = y1_3 + 1 := ⟨_, rfl⟩
      refine lv_iinc (v := x9) (lv' := [(3, .int x9), (2, .int 1), (0, .ref ((a 0))), (1, .int p_k)]) hx hb dX7_lay_37 hl (k := 1) rfl (by rw [e9]; rfl) (by decide) rfl (fun ls hl => ?_)
      refine lv_goto (tgt := 9) hx hb dX7_lay_40 (by decide) ?_
      exact ih1 (1, x9) _ _ _ (by have h1 := i_inc c2; have h2 := i_lt c2; have := hI.2.2.2.2.2.2.1.2.1; show (6 - (x9).toInt).toNat < (6 - (y1_3).toInt).toNat; rw [e9, h1]; omega) ⟨by rw [e9, i_inc c2]; omega, Or.inr rfl, fun e => absurd e (by decide), hP, hD, hS, lv_sub hl [0, 1, 2, 3] rfl⟩
    · refine lv_aload_n hx hb dX7_lay_21 rfl (lv_at hl 2 rfl) ?_
      refine va_get (D := D) (ci := 7) (v := .ref ((a 1))) (C := RX7) (T := TX7) (N := 41) hx hb hts hi7 hown hK hP 0 rfl rfl 4 (by decide) (hts (.fieldLink RX7 7 "GuardedCallsModel" "stack" "[I") (by decide +kernel)) (fun _ h9 => h9) rfl dX7_lay_22 ?_
      refine lv_iload_n hx hb dX7_lay_25 rfl (lv_at hl 0 rfl) ?_
      refine va_iald (D := D) hx hb hK hP 1 0 (f := (F 0)) (n := 5) rfl rfl (vp_in_iff.mpr ⟨hq1_0, by have h2 := i_lt c2; have := hI.2.2.2.2.2.2.1.2.1; omega⟩) dX7_lay_26 ?_
      refine lv_topi (fun x10 e10 => ?_)
      refine lv_iload_n hx hb dX7_lay_27 rfl (lv_at hl 3 rfl) ?_
      refine lv_icmp_ne (tgt := 35) hx hb dX7_lay_28 (by decide) (fun c11 => ?_) (fun c11 => ?_)
      · refine lv_iconst (v := 0) hx hb dX7_lay_35 (by decide) ?_
        refine lv_istore_n (lv' := [(2, .int 0), (3, .int y1_3), (0, .ref ((a 0))), (1, .int p_k)]) hx hb dX7_lay_36 rfl hl (by decide) rfl (fun ls hl => ?_)
        obtain ⟨x12, e12⟩ : ∃ y : Int32, y = y1_3 + 1 := ⟨_, rfl⟩
        refine lv_iinc (v := x12) (lv' := [(3, .int x12), (2, .int 0), (0, .ref ((a 0))), (1, .int p_k)]) hx hb dX7_lay_37 hl (k := 1) rfl (by rw [e12]; rfl) (by decide) rfl (fun ls hl => ?_)
        refine lv_goto (tgt := 9) hx hb dX7_lay_40 (by decide) ?_
        exact ih1 (0, x12) _ _ _ (by have h1 := i_inc c2; have h2 := i_lt c2; have := hI.2.2.2.2.2.2.1.2.1; show (6 - (x12).toInt).toNat < (6 - (y1_3).toInt).toNat; rw [e12, h1]; omega) ⟨by rw [e12, i_inc c2]; omega, Or.inl rfl, fun _ => by rw [e12]; exact lay_next hq1_0 c2 hI.2.2.2.2.2.2.1.2.1 (hq1_2 c8) (by rw [← e10]; exact c11), hP, hD, hS, lv_sub hl [0, 1, 2, 3] rfl⟩
      · refine lv_iconst (v := 1) hx hb dX7_lay_31 (by decide) ?_
        refine lv_goto (tgt := 36) hx hb dX7_lay_32 (by decide) ?_
        refine lv_istore_n (lv' := [(2, .int 1), (3, .int y1_3), (0, .ref ((a 0))), (1, .int p_k)]) hx hb dX7_lay_36 rfl hl (by decide) rfl (fun ls hl => ?_)
        obtain ⟨x13, e13⟩ : ∃ y : Int32, y = y1_3 + 1 := ⟨_, rfl⟩
        refine lv_iinc (v := x13) (lv' := [(3, .int x13), (2, .int 1), (0, .ref ((a 0))), (1, .int p_k)]) hx hb dX7_lay_37 hl (k := 1) rfl (by rw [e13]; rfl) (by decide) rfl (fun ls hl => ?_)
        refine lv_goto (tgt := 9) hx hb dX7_lay_40 (by decide) ?_
        exact ih1 (1, x13) _ _ _ (by have h1 := i_inc c2; have h2 := i_lt c2; have := hI.2.2.2.2.2.2.1.2.1; show (6 - (x13).toInt).toNat < (6 - (y1_3).toInt).toNat; rw [e13, h1]; omega) ⟨by rw [e13, i_inc c2]; omega, Or.inr rfl, fun e => absurd e (by decide), hP, hD, hS, lv_sub hl [0, 1, 2, 3] rfl⟩
set_option maxHeartbeats 4000000 in
set_option maxRecDepth 100000 in
theorem s_X7_breaker (l : Launch) (D : va_G) (cI : ClassId) (a : Nat → Nat) (sz : Nat) (g : Nat → Int32) (d : Nat → UInt64) (F : Nat → Nat → Int32) (p_s : Int32) (p_l : Int32) (p_w : Int32) (p_t : Int32) (hI : MI g d F) : Met l yX7_breaker wsX7_breaker ({ frames := 1, cells := 0, slots := 0, locals := 22 }) (gP (KM D cI) D (mw cI a g d F) sz [.ref (a 0), .int p_s, .int p_l, .int p_w, .int p_t]) (va_Qi (fun (r : Int32) (u : SS) => (r = sp_breaker p_s p_l p_w p_t) ∧ MI u.1 u.2.1 u.2.2 ∧ u.1 3 = g 3 ∧ u.1 26 = g 26 ∧ u.2.2 0 = F 0) (gB D (wfM cI a) (va_A (mw cI a g d F) sz)) (va_A (mw cI a g d F) sz)) 0 0 (va_A (mw cI a g d F) sz) := by
  refine Met.ofW (cc := cX7_breaker) (maxL := 5) (ret := (some .boolean)) (by decide) rfl ?_
  intro p e s m args below meth c s₁ B hml hv
  obtain ⟨rfl, hsz, hP, hD0, hKK⟩ := hv
  have hx := B.exec
  have hb := B.bytes
  have hr := B.returns
  have hts := atoms_spec (ws := wsX7_breaker) B.pre
  have hown : s.vm.findClass RX7 = some m.cls := findClass_of_methodNamed B.named
  have hlocks := B.notSynchronized
  subst hsz
  have hK := hKK.1
  have hok := KM_ok D cI
  have hD := hD0.self (sz := s.heap.size)
  generalize hAe : va_A (mw cI a g d F) s.heap.size = A at hD ⊢
  have hi7 : ∀ w ∈ wsX70, w ∈ wsX7_breaker := fun w h => List.mem_cons_of_mem _ (List.mem_append_right _ h)
  have hA : ∀ q : Nat, s.heap.size ≤ q → A q := fun q h => by rw [← hAe]; exact Or.inr h
  have hS : va_S A s.heap s.heap [] := va_S.rf
  have hP : va_P D vwCl (mw cI a g d F) s.heap := hP
  have hl := lv_entry ([.ref ((a 0)), .int p_s, .int p_l, .int p_w, .int p_t]) (n := 5) (Nat.le_of_ble_eq_true rfl)
  rw [lg_entry_eq]
  generalize (lg_sl ([.ref ((a 0)), .int p_s, .int p_l, .int p_w, .int p_t]) ++ List.replicate (5 - (lg_sl ([.ref ((a 0)), .int p_s, .int p_l, .int p_w, .int p_t])).length) Slot.unset).toArray = ls at hl ⊢
  have hl : lv_has ls 5 [(0, .ref ((a 0))), (1, .int p_s), (2, .int p_l), (3, .int p_w), (4, .int p_t)] := hl
  refine lv_aload_n hx hb dX7_breaker_0 rfl (lv_at hl 0 rfl) ?_
  refine lv_iconst (v := 0) hx hb dX7_breaker_1 (by decide) ?_
  refine va_put (D := D) (ci := 7) (v := .int 0) (ty := .int) (C := RX7) (T := TX7) (N := 41) hx hb hts hi7 tyX7 tyX7_ok nmX7 hown hK hP hD hS 0 rfl rfl 0 (by decide) (hts (.fieldLink RX7 96 "GuardedCallsModel" "thrown" "I") (by decide +kernel)) (fun _ h9 => h9) rfl (by decide +kernel) rfl rfl (Nat.le_of_ble_eq_true rfl) dX7_breaker_2 (fun H locs hP hD hS => ?_)
  have hP : va_P D vwCl (mw cI a (upd g 0 0) d F) H := hP
  have hD : va_D A (mw cI a (upd g 0 0) d F) := hD
  refine lv_iload_n hx hb dX7_breaker_5 rfl (lv_at hl 1 rfl) ?_
  refine lv_iconst (v := 1) hx hb dX7_breaker_6 (by decide) ?_
  refine lv_bipush (v := 8) hx hb dX7_breaker_7 (by decide) ?_
  refine gc_si (As := [.int p_s, .int 1, .int 8]) (rest := []) ⟨hx, hb, hml, hown, hts⟩ hP hD hS hA (c_X7_in l _ p_s 1 8) (va_cwS 3 hts gX7_breaker_X7_in rfl rfl rfl (by decide +kernel) ⟨Nat.le_of_ble_eq_true rfl, Nat.le_of_ble_eq_true rfl⟩) rfl hl.1 rfl (Nat.le_of_ble_eq_true rfl) dX7_breaker_9 ⟨Nat.le_of_ble_eq_true rfl, Nat.le_of_ble_eq_true rfl⟩ (fun r1 H locs hw1 hP hS => ?_)
  subst hw1
  refine lv_if_eq (tgt := 44) hx hb dX7_breaker_12 (by decide) (fun c2 => ?_) (fun c2 => ?_)
  · refine lv_iconst (v := 0) hx hb dX7_breaker_44 (by decide) ?_
    exact W.zret (v := 0) hx hb hr (rfl) (fun t ht hW => ⟨⟨_, (upd g 0 0, d, F), rfl, ⟨by simp [sp_breaker, c2], hI, rfl, rfl, rfl⟩, by rw [ht]; exact hP, hD⟩, hS.F ht⟩) hS.2.2 dX7_breaker_45
  · refine lv_iload_n hx hb dX7_breaker_15 rfl (lv_at hl 2 rfl) ?_
    refine lv_iconst (v := 1) hx hb dX7_breaker_16 (by decide) ?_
    refine lv_iload_n hx hb dX7_breaker_17 rfl (lv_at hl 1 rfl) ?_
    refine gc_si (As := [.int p_l, .int 1, .int p_s]) (rest := []) ⟨hx, hb, hml, hown, hts⟩ hP hD hS hA (c_X7_in l _ p_l 1 p_s) (va_cwS 3 hts gX7_breaker_X7_in rfl rfl rfl (by decide +kernel) ⟨Nat.le_of_ble_eq_true rfl, Nat.le_of_ble_eq_true rfl⟩) rfl hl.1 rfl (Nat.le_of_ble_eq_true rfl) dX7_breaker_18 ⟨Nat.le_of_ble_eq_true rfl, Nat.le_of_ble_eq_true rfl⟩ (fun r3 H locs hw3 hP hS => ?_)
    subst hw3
    refine lv_if_eq (tgt := 44) hx hb dX7_breaker_21 (by decide) (fun c4 => ?_) (fun c4 => ?_)
    · refine lv_iconst (v := 0) hx hb dX7_breaker_44 (by decide) ?_
      exact W.zret (v := 0) hx hb hr (rfl) (fun t ht hW => ⟨⟨_, (upd g 0 0, d, F), rfl, ⟨by simp [sp_breaker, c2, c4], hI, rfl, rfl, rfl⟩, by rw [ht]; exact hP, hD⟩, hS.F ht⟩) hS.2.2 dX7_breaker_45
    · refine lv_iload_n hx hb dX7_breaker_24 rfl (lv_at hl 3 rfl) ?_
      refine lv_iconst (v := 0) hx hb dX7_breaker_25 (by decide) ?_
      refine lv_bipush (v := 100) hx hb dX7_breaker_26 (by decide) ?_
      refine gc_si (As := [.int p_w, .int 0, .int 100]) (rest := []) ⟨hx, hb, hml, hown, hts⟩ hP hD hS hA (c_X7_in l _ p_w 0 100) (va_cwS 3 hts gX7_breaker_X7_in rfl rfl rfl (by decide +kernel) ⟨Nat.le_of_ble_eq_true rfl, Nat.le_of_ble_eq_true rfl⟩) rfl hl.1 rfl (Nat.le_of_ble_eq_true rfl) dX7_breaker_28 ⟨Nat.le_of_ble_eq_true rfl, Nat.le_of_ble_eq_true rfl⟩ (fun r5 H locs hw5 hP hS => ?_)
      subst hw5
      refine lv_if_eq (tgt := 44) hx hb dX7_breaker_31 (by decide) (fun c6 => ?_) (fun c6 => ?_)
      · refine lv_iconst (v := 0) hx hb dX7_breaker_44 (by decide) ?_
        exact W.zret (v := 0) hx hb hr (rfl) (fun t ht hW => ⟨⟨_, (upd g 0 0, d, F), rfl, ⟨by simp [sp_breaker, c2, c4, c6], hI, rfl, rfl, rfl⟩, by rw [ht]; exact hP, hD⟩, hS.F ht⟩) hS.2.2 dX7_breaker_45
      · refine lv_iload hx hb dX7_breaker_34 (lv_at hl 4 rfl) ?_
        refine lv_iconst (v := 1) hx hb dX7_breaker_36 (by decide) ?_
        refine lv_iconst (v := 4) hx hb dX7_breaker_37 (by decide) ?_
        refine gc_si (As := [.int p_t, .int 1, .int 4]) (rest := []) ⟨hx, hb, hml, hown, hts⟩ hP hD hS hA (c_X7_in l _ p_t 1 4) (va_cwS 3 hts gX7_breaker_X7_in rfl rfl rfl (by decide +kernel) ⟨Nat.le_of_ble_eq_true rfl, Nat.le_of_ble_eq_true rfl⟩) rfl hl.1 rfl (Nat.le_of_ble_eq_true rfl) dX7_breaker_38 ⟨Nat.le_of_ble_eq_true rfl, Nat.le_of_ble_eq_true rfl⟩ (fun r7 H locs hw7 hP hS => ?_)
        subst hw7
        refine lv_if_ne (tgt := 46) hx hb dX7_breaker_41 (by decide) (fun c8 => ?_) (fun c8 => ?_)
        · refine lv_aload_n hx hb dX7_breaker_46 rfl (lv_at hl 0 rfl) ?_
          refine lv_iload_n hx hb dX7_breaker_47 rfl (lv_at hl 1 rfl) ?_
          refine va_put (D := D) (ci := 7) (v := .int p_s) (ty := .int) (C := RX7) (T := TX7) (N := 41) hx hb hts hi7 tyX7 tyX7_ok nmX7 hown hK hP hD hS 0 rfl rfl 11 (by decide) (hts (.fieldLink RX7 22 "GuardedCallsModel" "size" "I") (by decide +kernel)) (fun _ h9 => h9) rfl (by decide +kernel) rfl rfl (Nat.le_of_ble_eq_true rfl) dX7_breaker_48 (fun H locs hP hD hS => ?_)
          have hP : va_P D vwCl (mw cI a (upd (upd g 0 0) 11 p_s) d F) H := hP
          have hD : va_D A (mw cI a (upd (upd g 0 0) 11 p_s) d F) := hD
          refine lv_aload_n hx hb dX7_breaker_51 rfl (lv_at hl 0 rfl) ?_
          refine lv_iload_n hx hb dX7_breaker_52 rfl (lv_at hl 2 rfl) ?_
          refine va_put (D := D) (ci := 7) (v := .int p_l) (ty := .int) (C := RX7) (T := TX7) (N := 41) hx hb hts hi7 tyX7 tyX7_ok nmX7 hown hK hP hD hS 0 rfl rfl 12 (by decide) (hts (.fieldLink RX7 26 "GuardedCallsModel" "least" "I") (by decide +kernel)) (fun _ h9 => h9) rfl (by decide +kernel) rfl rfl (Nat.le_of_ble_eq_true rfl) dX7_breaker_53 (fun H locs hP hD hS => ?_)
          have hP : va_P D vwCl (mw cI a (upd (upd (upd g 0 0) 11 p_s) 12 p_l) d F) H := hP
          have hD : va_D A (mw cI a (upd (upd (upd g 0 0) 11 p_s) 12 p_l) d F) := hD
          refine lv_aload_n hx hb dX7_breaker_56 rfl (lv_at hl 0 rfl) ?_
          refine lv_iload_n hx hb dX7_breaker_57 rfl (lv_at hl 3 rfl) ?_
          refine va_put (D := D) (ci := 7) (v := .int p_w) (ty := .int) (C := RX7) (T := TX7) (N := 41) hx hb hts hi7 tyX7 tyX7_ok nmX7 hown hK hP hD hS 0 rfl rfl 13 (by decide) (hts (.fieldLink RX7 29 "GuardedCallsModel" "rest" "I") (by decide +kernel)) (fun _ h9 => h9) rfl (by decide +kernel) rfl rfl (Nat.le_of_ble_eq_true rfl) dX7_breaker_58 (fun H locs hP hD hS => ?_)
          have hP : va_P D vwCl (mw cI a (upd (upd (upd (upd g 0 0) 11 p_s) 12 p_l) 13 p_w) d F) H := hP
          have hD : va_D A (mw cI a (upd (upd (upd (upd g 0 0) 11 p_s) 12 p_l) 13 p_w) d F) := hD
          refine lv_aload_n hx hb dX7_breaker_61 rfl (lv_at hl 0 rfl) ?_
          refine lv_iload hx hb dX7_breaker_62 (lv_at hl 4 rfl) ?_
          refine va_put (D := D) (ci := 7) (v := .int p_t) (ty := .int) (C := RX7) (T := TX7) (N := 41) hx hb hts hi7 tyX7 tyX7_ok nmX7 hown hK hP hD hS 0 rfl rfl 14 (by decide) (hts (.fieldLink RX7 32 "GuardedCallsModel" "most" "I") (by decide +kernel)) (fun _ h9 => h9) rfl (by decide +kernel) rfl rfl (Nat.le_of_ble_eq_true rfl) dX7_breaker_64 (fun H locs hP hD hS => ?_)
          have hP : va_P D vwCl (mw cI a (upd (upd (upd (upd (upd g 0 0) 11 p_s) 12 p_l) 13 p_w) 14 p_t) d F) H := hP
          have hD : va_D A (mw cI a (upd (upd (upd (upd (upd g 0 0) 11 p_s) 12 p_l) 13 p_w) 14 p_t) d F) := hD
          refine lv_aload_n hx hb dX7_breaker_67 rfl (lv_at hl 0 rfl) ?_
          refine lv_iconst (v := 0) hx hb dX7_breaker_68 (by decide) ?_
          refine gc_vv (As := [.int 0]) (rest := []) (w0 := mw cI a (upd (upd (upd (upd (upd g 0 0) 11 p_s) 12 p_l) 13 p_w) 14 p_t) d F) (wc := mw cI a (upd (upd (upd (upd (upd g 0 0) 11 p_s) 12 p_l) 13 p_w) 14 p_t) d F) (wr := []) (wf := wfM cI a) ⟨hx, hb, hml, hown, hts⟩ hKK hok hP hD hS hA [0, 1, 2, 3, 4, 5, 6] [] rfl rfl (by decide) (s_X7_become l D cI a _ (upd (upd (upd (upd (upd g 0 0) 11 p_s) 12 p_l) 13 p_w) 14 p_t) d F 0) (cwV 1 hts gX7_breaker_X7_become rfl rfl rfl (by decide +kernel) ⟨Nat.le_of_ble_eq_true rfl, Nat.le_of_ble_eq_true rfl⟩) (va_recv hK hP (ci := 7) (q0 := 0) rfl rfl) rfl hl.1 rfl (Nat.le_of_ble_eq_true rfl) dX7_breaker_69 ⟨Nat.le_of_ble_eq_true rfl, Nat.le_of_ble_eq_true rfl⟩ (fun u9 H locs hw9 hP hD hS => ?_)
          subst hw9
          have hP : va_P D vwCl (mw cI a (upd (upd (upd (upd (upd (upd (upd (upd g 0 0) 11 p_s) 12 p_l) 13 p_w) 14 p_t) 18 0) 21 0) 20 0) d F) H := hP
          have hD : va_D A (mw cI a (upd (upd (upd (upd (upd (upd (upd (upd g 0 0) 11 p_s) 12 p_l) 13 p_w) 14 p_t) 18 0) 21 0) 20 0) d F) := hD
          have hI10 : MI (upd (upd (upd (upd (upd (upd (upd (upd g 0 0) 11 p_s) 12 p_l) 13 p_w) 14 p_t) 18 0) 21 0) 20 0) d F := ⟨hI.1, hI.2.1, hI.2.2.1, ⟨bw_r (x := 1) (y := 8) rfl rfl c2, bw_r (x := 1) (y := 4) rfl rfl c8⟩, hI.2.2.2.2.1, M6_zero (bw_r (x := 1) (y := 4) rfl rfl c8).1 (bw_r (x := 1) (y := 8) rfl rfl c2).1, hI.2.2.2.2.2.2.1, hI.2.2.2.2.2.2.2.1, hI.2.2.2.2.2.2.2.2⟩
          refine lv_iconst (v := 1) hx hb dX7_breaker_72 (by decide) ?_
          exact W.zret (v := 1) hx hb hr (rfl) (fun t ht hW => ⟨⟨_, (upd (upd (upd (upd (upd (upd (upd (upd g 0 0) 11 p_s) 12 p_l) 13 p_w) 14 p_t) 18 0) 21 0) 20 0, d, F), rfl, ⟨by simp [sp_breaker, c2, c4, c6, c8], hI10, rfl, rfl, rfl⟩, by rw [ht]; exact hP, hD⟩, hS.F ht⟩) hS.2.2 dX7_breaker_73
        · refine lv_iconst (v := 0) hx hb dX7_breaker_44 (by decide) ?_
          exact W.zret (v := 0) hx hb hr (rfl) (fun t ht hW => ⟨⟨_, (upd g 0 0, d, F), rfl, ⟨by simp [sp_breaker, c2, c4, c6, c8], hI, rfl, rfl, rfl⟩, by rw [ht]; exact hP, hD⟩, hS.F ht⟩) hS.2.2 dX7_breaker_45
set_option maxHeartbeats 4000000 in
set_option maxRecDepth 100000 in
theorem s_X7_trips (l : Launch) (D : va_G) (cI : ClassId) (a : Nat → Nat) (sz : Nat) (g : Nat → Int32) (d : Nat → UInt64) (F : Nat → Nat → Int32) (p_f : UInt64) (p_s : UInt64) (p_k : Int32) (hI : MI g d F) : Met l yX7_trips wsX7_trips ({ frames := 1, cells := 0, slots := 0, locals := 22 }) (gP (KM D cI) D (mw cI a g d F) sz [.ref (a 0), .double p_f, .double p_s, .int p_k]) (va_Qi (fun (r : Int32) (u : SS) => (r = sp_trips p_f p_s p_k) ∧ MI u.1 u.2.1 u.2.2 ∧ u.1 3 = g 3 ∧ u.1 26 = g 26 ∧ u.2.2 0 = F 0) (gB D (wfM cI a) (va_A (mw cI a g d F) sz)) (va_A (mw cI a g d F) sz)) 0 0 (va_A (mw cI a g d F) sz) := by
  refine Met.ofW (cc := cX7_trips) (maxL := 6) (ret := (some .boolean)) (by decide) rfl ?_
  intro p e s m args below meth c s₁ B hml hv
  obtain ⟨rfl, hsz, hP, hD0, hKK⟩ := hv
  have hx := B.exec
  have hb := B.bytes
  have hr := B.returns
  have hts := atoms_spec (ws := wsX7_trips) B.pre
  have hown : s.vm.findClass RX7 = some m.cls := findClass_of_methodNamed B.named
  have hlocks := B.notSynchronized
  subst hsz
  have hK := hKK.1
  have hok := KM_ok D cI
  have hD := hD0.self (sz := s.heap.size)
  generalize hAe : va_A (mw cI a g d F) s.heap.size = A at hD ⊢
  have hi7 : ∀ w ∈ wsX70, w ∈ wsX7_trips := fun w h => List.mem_cons_of_mem _ (List.mem_append_right _ h)
  have hA : ∀ q : Nat, s.heap.size ≤ q → A q := fun q h => by rw [← hAe]; exact Or.inr h
  have hS : va_S A s.heap s.heap [] := va_S.rf
  have hP : va_P D vwCl (mw cI a g d F) s.heap := hP
  have hl := lv_entry ([.ref ((a 0)), .double p_f, .double p_s, .int p_k]) (n := 6) (Nat.le_of_ble_eq_true rfl)
  rw [lg_entry_eq]
  generalize (lg_sl ([.ref ((a 0)), .double p_f, .double p_s, .int p_k]) ++ List.replicate (6 - (lg_sl ([.ref ((a 0)), .double p_f, .double p_s, .int p_k])).length) Slot.unset).toArray = ls at hl ⊢
  have hl : lv_has ls 6 [(0, .ref ((a 0))), (1, .double p_f), (3, .double p_s), (5, .int p_k)] := hl
  refine lv_aload_n hx hb dX7_trips_0 rfl (lv_at hl 0 rfl) ?_
  refine lv_iconst (v := 0) hx hb dX7_trips_1 (by decide) ?_
  refine va_put (D := D) (ci := 7) (v := .int 0) (ty := .int) (C := RX7) (T := TX7) (N := 41) hx hb hts hi7 tyX7 tyX7_ok nmX7 hown hK hP hD hS 0 rfl rfl 0 (by decide) (hts (.fieldLink RX7 96 "GuardedCallsModel" "thrown" "I") (by decide +kernel)) (fun _ h9 => h9) rfl (by decide +kernel) rfl rfl (Nat.le_of_ble_eq_true rfl) dX7_trips_2 (fun H locs hP hD hS => ?_)
  have hP : va_P D vwCl (mw cI a (upd g 0 0) d F) H := hP
  have hD : va_D A (mw cI a (upd g 0 0) d F) := hD
  refine lv_dload_n hx hb dX7_trips_5 rfl (lv_at hl 1 rfl) ?_
  refine lv_dconst0 hx hb dX7_trips_6 ?_
  refine lv_dcmp hx hb dX7_trips_7 ?_
  refine lv_if_le (tgt := 44) hx hb dX7_trips_8 (by decide) (fun c1 => ?_) (fun c1 => ?_)
  · refine lv_iconst (v := 0) hx hb dX7_trips_44 (by decide) ?_
    exact W.zret (v := 0) hx hb hr (rfl) (fun t ht hW => ⟨⟨_, (upd g 0 0, d, F), rfl, ⟨by simp [sp_trips, br, c1], hI, rfl, rfl, rfl⟩, by rw [ht]; exact hP, hD⟩, hS.F ht⟩) hS.2.2 dX7_trips_45
  · refine lv_dload_n hx hb dX7_trips_11 rfl (lv_at hl 1 rfl) ?_
    refine lv_ldc2d (v := 4636737291354636288) hx hb hown (hts (.constantDouble RX7 44 (4636737291354636288)) (by decide +kernel)) dX7_trips_12 ?_
    refine lv_dcmp hx hb dX7_trips_15 ?_
    refine lv_if_gt (tgt := 44) hx hb dX7_trips_16 (by decide) (fun c2 => ?_) (fun c2 => ?_)
    · refine lv_iconst (v := 0) hx hb dX7_trips_44 (by decide) ?_
      exact W.zret (v := 0) hx hb hr (rfl) (fun t ht hW => ⟨⟨_, (upd g 0 0, d, F), rfl, ⟨by simp [sp_trips, br, c1, c2], hI, rfl, rfl, rfl⟩, by rw [ht]; exact hP, hD⟩, hS.F ht⟩) hS.2.2 dX7_trips_45
    · refine lv_dload_n hx hb dX7_trips_19 rfl (lv_at hl 2 rfl) ?_
      refine lv_dconst0 hx hb dX7_trips_20 ?_
      refine lv_dcmp hx hb dX7_trips_21 ?_
      refine lv_if_le (tgt := 44) hx hb dX7_trips_22 (by decide) (fun c3 => ?_) (fun c3 => ?_)
      · refine lv_iconst (v := 0) hx hb dX7_trips_44 (by decide) ?_
        exact W.zret (v := 0) hx hb hr (rfl) (fun t ht hW => ⟨⟨_, (upd g 0 0, d, F), rfl, ⟨by simp [sp_trips, br, c1, c2, c3], hI, rfl, rfl, rfl⟩, by rw [ht]; exact hP, hD⟩, hS.F ht⟩) hS.2.2 dX7_trips_45
      · refine lv_dload_n hx hb dX7_trips_25 rfl (lv_at hl 2 rfl) ?_
        refine lv_ldc2d (v := 4636737291354636288) hx hb hown (hts (.constantDouble RX7 44 (4636737291354636288)) (by decide +kernel)) dX7_trips_26 ?_
        refine lv_dcmp hx hb dX7_trips_29 ?_
        refine lv_if_gt (tgt := 44) hx hb dX7_trips_30 (by decide) (fun c4 => ?_) (fun c4 => ?_)
        · refine lv_iconst (v := 0) hx hb dX7_trips_44 (by decide) ?_
          exact W.zret (v := 0) hx hb hr (rfl) (fun t ht hW => ⟨⟨_, (upd g 0 0, d, F), rfl, ⟨by simp [sp_trips, br, c1, c2, c3, c4], hI, rfl, rfl, rfl⟩, by rw [ht]; exact hP, hD⟩, hS.F ht⟩) hS.2.2 dX7_trips_45
        · refine lv_iload hx hb dX7_trips_33 (lv_at hl 3 rfl) ?_
          refine lv_iconst (v := 0) hx hb dX7_trips_35 (by decide) ?_
          refine lv_bipush (v := 100) hx hb dX7_trips_36 (by decide) ?_
          refine gc_si (As := [.int p_k, .int 0, .int 100]) (rest := []) ⟨hx, hb, hml, hown, hts⟩ hP hD hS hA (c_X7_in l _ p_k 0 100) (va_cwS 3 hts gX7_trips_X7_in rfl rfl rfl (by decide +kernel) ⟨Nat.le_of_ble_eq_true rfl, Nat.le_of_ble_eq_true rfl⟩) rfl hl.1 rfl (Nat.le_of_ble_eq_true rfl) dX7_trips_38 ⟨Nat.le_of_ble_eq_true rfl, Nat.le_of_ble_eq_true rfl⟩ (fun r5 H locs hw5 hP hS => ?_)
          subst hw5
          refine lv_if_ne (tgt := 46) hx hb dX7_trips_41 (by decide) (fun c6 => ?_) (fun c6 => ?_)
          · refine lv_aload_n hx hb dX7_trips_46 rfl (lv_at hl 0 rfl) ?_
            refine lv_dload_n hx hb dX7_trips_47 rfl (lv_at hl 1 rfl) ?_
            refine va_put (D := D) (ci := 7) (v := .double p_f) (ty := .double) (C := RX7) (T := TX7) (N := 41) hx hb hts hi7 tyX7 tyX7_ok nmX7 hown hK hP hD hS 0 rfl rfl 16 (by decide) (hts (.fieldLink RX7 40 "GuardedCallsModel" "failures" "D") (by decide +kernel)) (fun _ h9 => h9) rfl (by decide +kernel) rfl rfl (Nat.le_of_ble_eq_true rfl) dX7_trips_48 (fun H locs hP hD hS => ?_)
            have hP : va_P D vwCl (mw cI a (upd g 0 0) (vf_upd d 16 p_f) F) H := hP
            have hD : va_D A (mw cI a (upd g 0 0) (vf_upd d 16 p_f) F) := hD
            refine lv_aload_n hx hb dX7_trips_51 rfl (lv_at hl 0 rfl) ?_
            refine lv_dload_n hx hb dX7_trips_52 rfl (lv_at hl 2 rfl) ?_
            refine va_put (D := D) (ci := 7) (v := .double p_s) (ty := .double) (C := RX7) (T := TX7) (N := 41) hx hb hts hi7 tyX7 tyX7_ok nmX7 hown hK hP hD hS 0 rfl rfl 17 (by decide) (hts (.fieldLink RX7 46 "GuardedCallsModel" "slugs" "D") (by decide +kernel)) (fun _ h9 => h9) rfl (by decide +kernel) rfl rfl (Nat.le_of_ble_eq_true rfl) dX7_trips_53 (fun H locs hP hD hS => ?_)
            have hP : va_P D vwCl (mw cI a (upd g 0 0) (vf_upd (vf_upd d 16 p_f) 17 p_s) F) H := hP
            have hD : va_D A (mw cI a (upd g 0 0) (vf_upd (vf_upd d 16 p_f) 17 p_s) F) := hD
            refine lv_aload_n hx hb dX7_trips_56 rfl (lv_at hl 0 rfl) ?_
            refine lv_iload hx hb dX7_trips_57 (lv_at hl 3 rfl) ?_
            refine va_put (D := D) (ci := 7) (v := .int p_k) (ty := .int) (C := RX7) (T := TX7) (N := 41) hx hb hts hi7 tyX7 tyX7_ok nmX7 hown hK hP hD hS 0 rfl rfl 15 (by decide) (hts (.fieldLink RX7 35 "GuardedCallsModel" "slow" "I") (by decide +kernel)) (fun _ h9 => h9) rfl (by decide +kernel) rfl rfl (Nat.le_of_ble_eq_true rfl) dX7_trips_59 (fun H locs hP hD hS => ?_)
            have hP : va_P D vwCl (mw cI a (upd (upd g 0 0) 15 p_k) (vf_upd (vf_upd d 16 p_f) 17 p_s) F) H := hP
            have hD : va_D A (mw cI a (upd (upd g 0 0) 15 p_k) (vf_upd (vf_upd d 16 p_f) 17 p_s) F) := hD
            refine lv_iconst (v := 1) hx hb dX7_trips_62 (by decide) ?_
            exact W.zret (v := 1) hx hb hr (rfl) (fun t ht hW => ⟨⟨_, (upd (upd g 0 0) 15 p_k, vf_upd (vf_upd d 16 p_f) 17 p_s, F), rfl, ⟨by simp [sp_trips, br, c1, c2, c3, c4, c6], hI, rfl, rfl, rfl⟩, by rw [ht]; exact hP, hD⟩, hS.F ht⟩) hS.2.2 dX7_trips_63
          · refine lv_iconst (v := 0) hx hb dX7_trips_44 (by decide) ?_
            exact W.zret (v := 0) hx hb hr (rfl) (fun t ht hW => ⟨⟨_, (upd g 0 0, d, F), rfl, ⟨by simp [sp_trips, br, c1, c2, c3, c4, c6], hI, rfl, rfl, rfl⟩, by rw [ht]; exact hP, hD⟩, hS.F ht⟩) hS.2.2 dX7_trips_45
set_option maxHeartbeats 4000000 in
set_option maxRecDepth 100000 in
theorem s_X7_bulkhead (l : Launch) (D : va_G) (cI : ClassId) (a : Nat → Nat) (sz : Nat) (g : Nat → Int32) (d : Nat → UInt64) (F : Nat → Nat → Int32) (p_k : Int32) (hI : MI g d F) : Met l yX7_bulkhead wsX7_bulkhead ({ frames := 1, cells := 0, slots := 0, locals := 22 }) (gP (KM D cI) D (mw cI a g d F) sz [.ref (a 0), .int p_k]) (va_Qi (fun (r : Int32) (u : SS) => (r = sp1 p_k 0 5) ∧ MI u.1 u.2.1 u.2.2 ∧ u.1 3 = g 3 ∧ u.1 26 = g 26 ∧ u.2.2 0 = F 0) (gB D (wfM cI a) (va_A (mw cI a g d F) sz)) (va_A (mw cI a g d F) sz)) 0 0 (va_A (mw cI a g d F) sz) := by
  refine Met.ofW (cc := cX7_bulkhead) (maxL := 2) (ret := (some .boolean)) (by decide) rfl ?_
  intro p e s m args below meth c s₁ B hml hv
  obtain ⟨rfl, hsz, hP, hD0, hKK⟩ := hv
  have hx := B.exec
  have hb := B.bytes
  have hr := B.returns
  have hts := atoms_spec (ws := wsX7_bulkhead) B.pre
  have hown : s.vm.findClass RX7 = some m.cls := findClass_of_methodNamed B.named
  have hlocks := B.notSynchronized
  subst hsz
  have hK := hKK.1
  have hok := KM_ok D cI
  have hD := hD0.self (sz := s.heap.size)
  generalize hAe : va_A (mw cI a g d F) s.heap.size = A at hD ⊢
  have hi7 : ∀ w ∈ wsX70, w ∈ wsX7_bulkhead := fun w h => List.mem_cons_of_mem _ (List.mem_append_right _ h)
  have hA : ∀ q : Nat, s.heap.size ≤ q → A q := fun q h => by rw [← hAe]; exact Or.inr h
  have hS : va_S A s.heap s.heap [] := va_S.rf
  have hP : va_P D vwCl (mw cI a g d F) s.heap := hP
  have hl := lv_entry ([.ref ((a 0)), .int p_k]) (n := 2) (Nat.le_of_ble_eq_true rfl)
  rw [lg_entry_eq]
  generalize (lg_sl ([.ref ((a 0)), .int p_k]) ++ List.replicate (2 - (lg_sl ([.ref ((a 0)), .int p_k])).length) Slot.unset).toArray = ls at hl ⊢
  have hl : lv_has ls 2 [(0, .ref ((a 0))), (1, .int p_k)] := hl
  refine lv_aload_n hx hb dX7_bulkhead_0 rfl (lv_at hl 0 rfl) ?_
  refine lv_iconst (v := 0) hx hb dX7_bulkhead_1 (by decide) ?_
  refine va_put (D := D) (ci := 7) (v := .int 0) (ty := .int) (C := RX7) (T := TX7) (N := 41) hx hb hts hi7 tyX7 tyX7_ok nmX7 hown hK hP hD hS 0 rfl rfl 0 (by decide) (hts (.fieldLink RX7 96 "GuardedCallsModel" "thrown" "I") (by decide +kernel)) (fun _ h9 => h9) rfl (by decide +kernel) rfl rfl (Nat.le_of_ble_eq_true rfl) dX7_bulkhead_2 (fun H locs hP hD hS => ?_)
  have hP : va_P D vwCl (mw cI a (upd g 0 0) d F) H := hP
  have hD : va_D A (mw cI a (upd g 0 0) d F) := hD
  refine lv_iload_n hx hb dX7_bulkhead_5 rfl (lv_at hl 1 rfl) ?_
  refine lv_iconst (v := 0) hx hb dX7_bulkhead_6 (by decide) ?_
  refine lv_iconst (v := 5) hx hb dX7_bulkhead_7 (by decide) ?_
  refine gc_si (As := [.int p_k, .int 0, .int 5]) (rest := []) ⟨hx, hb, hml, hown, hts⟩ hP hD hS hA (c_X7_in l _ p_k 0 5) (va_cwS 3 hts gX7_bulkhead_X7_in rfl rfl rfl (by decide +kernel) ⟨Nat.le_of_ble_eq_true rfl, Nat.le_of_ble_eq_true rfl⟩) rfl hl.1 rfl (Nat.le_of_ble_eq_true rfl) dX7_bulkhead_8 ⟨Nat.le_of_ble_eq_true rfl, Nat.le_of_ble_eq_true rfl⟩ (fun r1 H locs hw1 hP hS => ?_)
  subst hw1
  refine lv_if_ne (tgt := 16) hx hb dX7_bulkhead_11 (by decide) (fun c2 => ?_) (fun c2 => ?_)
  · refine lv_aload_n hx hb dX7_bulkhead_16 rfl (lv_at hl 0 rfl) ?_
    refine lv_iload_n hx hb dX7_bulkhead_17 rfl (lv_at hl 1 rfl) ?_
    refine va_put (D := D) (ci := 7) (v := .int p_k) (ty := .int) (C := RX7) (T := TX7) (N := 41) hx hb hts hi7 tyX7 tyX7_ok nmX7 hown hK hP hD hS 0 rfl rfl 25 (by decide) (hts (.fieldLink RX7 52 "GuardedCallsModel" "capacity" "I") (by decide +kernel)) (fun _ h9 => h9) rfl (by decide +kernel) rfl rfl (Nat.le_of_ble_eq_true rfl) dX7_bulkhead_18 (fun H locs hP hD hS => ?_)
    have hP : va_P D vwCl (mw cI a (upd (upd g 0 0) 25 p_k) d F) H := hP
    have hD : va_D A (mw cI a (upd (upd g 0 0) 25 p_k) d F) := hD
    refine lv_iconst (v := 1) hx hb dX7_bulkhead_21 (by decide) ?_
    exact W.zret (v := 1) hx hb hr (rfl) (fun t ht hW => ⟨⟨_, (upd (upd g 0 0) 25 p_k, d, F), rfl, ⟨by simp [sp1, c2], hI, rfl, rfl, rfl⟩, by rw [ht]; exact hP, hD⟩, hS.F ht⟩) hS.2.2 dX7_bulkhead_22
  · refine lv_iconst (v := 0) hx hb dX7_bulkhead_14 (by decide) ?_
    exact W.zret (v := 0) hx hb hr (rfl) (fun t ht hW => ⟨⟨_, (upd g 0 0, d, F), rfl, ⟨by simp [sp1, c2], hI, rfl, rfl, rfl⟩, by rw [ht]; exact hP, hD⟩, hS.F ht⟩) hS.2.2 dX7_bulkhead_15
set_option maxHeartbeats 4000000 in
set_option maxRecDepth 100000 in
theorem s_X7_use (l : Launch) (D : va_G) (cI : ClassId) (a : Nat → Nat) (sz : Nat) (g : Nat → Int32) (d : Nat → UInt64) (F : Nat → Nat → Int32) (p_k : Int32) (hI : MI g d F) : Met l yX7_use wsX7_use ({ frames := 1, cells := 0, slots := 0, locals := 22 }) (gP (KM D cI) D (mw cI a g d F) sz [.ref (a 0), .int p_k]) (va_Qi (fun (r : Int32) (u : SS) => r = spm (g 26) p_k ∧ MI u.1 u.2.1 u.2.2 ∧ u.1 3 = g 3 ∧ u.1 26 = (if spm (g 26) p_k = 0 then g 26 else g 26 + p_k) ∧ u.2.2 0 = F 0) (gB D (wfM cI a) (va_A (mw cI a g d F) sz)) (va_A (mw cI a g d F) sz)) 0 0 (va_A (mw cI a g d F) sz) := by
  refine Met.ofW (cc := cX7_use) (maxL := 2) (ret := (some .boolean)) (by decide) rfl ?_
  intro p e s m args below meth c s₁ B hml hv
  obtain ⟨rfl, hsz, hP, hD0, hKK⟩ := hv
  have hx := B.exec
  have hb := B.bytes
  have hr := B.returns
  have hts := atoms_spec (ws := wsX7_use) B.pre
  have hown : s.vm.findClass RX7 = some m.cls := findClass_of_methodNamed B.named
  have hlocks := B.notSynchronized
  subst hsz
  have hK := hKK.1
  have hok := KM_ok D cI
  have hD := hD0.self (sz := s.heap.size)
  generalize hAe : va_A (mw cI a g d F) s.heap.size = A at hD ⊢
  have hi7 : ∀ w ∈ wsX70, w ∈ wsX7_use := fun w h => List.mem_cons_of_mem _ (List.mem_append_right _ h)
  have hA : ∀ q : Nat, s.heap.size ≤ q → A q := fun q h => by rw [← hAe]; exact Or.inr h
  have hS : va_S A s.heap s.heap [] := va_S.rf
  have hP : va_P D vwCl (mw cI a g d F) s.heap := hP
  have hl := lv_entry ([.ref ((a 0)), .int p_k]) (n := 2) (Nat.le_of_ble_eq_true rfl)
  rw [lg_entry_eq]
  generalize (lg_sl ([.ref ((a 0)), .int p_k]) ++ List.replicate (2 - (lg_sl ([.ref ((a 0)), .int p_k])).length) Slot.unset).toArray = ls at hl ⊢
  have hl : lv_has ls 2 [(0, .ref ((a 0))), (1, .int p_k)] := hl
  refine lv_aload_n hx hb dX7_use_0 rfl (lv_at hl 0 rfl) ?_
  refine lv_iconst (v := 0) hx hb dX7_use_1 (by decide) ?_
  refine va_put (D := D) (ci := 7) (v := .int 0) (ty := .int) (C := RX7) (T := TX7) (N := 41) hx hb hts hi7 tyX7 tyX7_ok nmX7 hown hK hP hD hS 0 rfl rfl 0 (by decide) (hts (.fieldLink RX7 96 "GuardedCallsModel" "thrown" "I") (by decide +kernel)) (fun _ h9 => h9) rfl (by decide +kernel) rfl rfl (Nat.le_of_ble_eq_true rfl) dX7_use_2 (fun H locs hP hD hS => ?_)
  have hP : va_P D vwCl (mw cI a (upd g 0 0) d F) H := hP
  have hD : va_D A (mw cI a (upd g 0 0) d F) := hD
  refine lv_iload_n hx hb dX7_use_5 rfl (lv_at hl 1 rfl) ?_
  refine lv_bipush (v := (-9)) hx hb dX7_use_6 (by decide) ?_
  refine lv_bipush (v := 9) hx hb dX7_use_8 (by decide) ?_
  refine gc_si (As := [.int p_k, .int ((-9)), .int 9]) (rest := []) ⟨hx, hb, hml, hown, hts⟩ hP hD hS hA (c_X7_in l _ p_k ((-9)) 9) (va_cwS 3 hts gX7_use_X7_in rfl rfl rfl (by decide +kernel) ⟨Nat.le_of_ble_eq_true rfl, Nat.le_of_ble_eq_true rfl⟩) rfl hl.1 rfl (Nat.le_of_ble_eq_true rfl) dX7_use_10 ⟨Nat.le_of_ble_eq_true rfl, Nat.le_of_ble_eq_true rfl⟩ (fun r1 H locs hw1 hP hS => ?_)
  subst hw1
  refine lv_if_eq (tgt := 31) hx hb dX7_use_13 (by decide) (fun c2 => ?_) (fun c2 => ?_)
  · refine lv_iconst (v := 0) hx hb dX7_use_31 (by decide) ?_
    exact W.zret (v := 0) hx hb hr (rfl) (fun t ht hW => ⟨⟨_, (upd g 0 0, d, F), rfl, ⟨by simp [spm, c2], hI, rfl, by show g 26 = _; simp [spm, c2], rfl⟩, by rw [ht]; exact hP, hD⟩, hS.F ht⟩) hS.2.2 dX7_use_32
  · refine lv_aload_n hx hb dX7_use_16 rfl (lv_at hl 0 rfl) ?_
    refine va_get (D := D) (ci := 7) (v := .int ((g 26))) (C := RX7) (T := TX7) (N := 41) hx hb hts hi7 hown hK hP 0 rfl rfl 26 (by decide) (hts (.fieldLink RX7 167 "GuardedCallsModel" "used" "I") (by decide +kernel)) (fun _ h9 => h9) rfl dX7_use_17 ?_
    refine lv_iload_n hx hb dX7_use_20 rfl (lv_at hl 1 rfl) ?_
    refine lv_iadd hx hb dX7_use_21 ?_
    refine lv_topi (fun x3 e3 => ?_)
    refine lv_iconst (v := 0) hx hb dX7_use_22 (by decide) ?_
    refine lv_bipush (v := 9) hx hb dX7_use_23 (by decide) ?_
    refine gc_si (As := [.int x3, .int 0, .int 9]) (rest := []) ⟨hx, hb, hml, hown, hts⟩ hP hD hS hA (c_X7_in l _ x3 0 9) (va_cwS 3 hts gX7_use_X7_in rfl rfl rfl (by decide +kernel) ⟨Nat.le_of_ble_eq_true rfl, Nat.le_of_ble_eq_true rfl⟩) rfl hl.1 rfl (Nat.le_of_ble_eq_true rfl) dX7_use_25 ⟨Nat.le_of_ble_eq_true rfl, Nat.le_of_ble_eq_true rfl⟩ (fun r4 H locs hw4 hP hS => ?_)
    subst hw4
    refine lv_if_ne (tgt := 33) hx hb dX7_use_28 (by decide) (fun c5 => ?_) (fun c5 => ?_)
    · refine lv_aload_n hx hb dX7_use_33 rfl (lv_at hl 0 rfl) ?_
      refine lv_aload_n hx hb dX7_use_34 rfl (lv_at hl 0 rfl) ?_
      refine va_get (D := D) (ci := 7) (v := .int ((g 26))) (C := RX7) (T := TX7) (N := 41) hx hb hts hi7 hown hK hP 0 rfl rfl 26 (by decide) (hts (.fieldLink RX7 167 "GuardedCallsModel" "used" "I") (by decide +kernel)) (fun _ h9 => h9) rfl dX7_use_35 ?_
      refine lv_iload_n hx hb dX7_use_38 rfl (lv_at hl 1 rfl) ?_
      refine lv_iadd hx hb dX7_use_39 ?_
      refine lv_topi (fun x6 e6 => ?_)
      refine va_put (D := D) (ci := 7) (v := .int x6) (ty := .int) (C := RX7) (T := TX7) (N := 41) hx hb hts hi7 tyX7 tyX7_ok nmX7 hown hK hP hD hS 0 rfl rfl 26 (by decide) (hts (.fieldLink RX7 167 "GuardedCallsModel" "used" "I") (by decide +kernel)) (fun _ h9 => h9) rfl (by decide +kernel) rfl rfl (Nat.le_of_ble_eq_true rfl) dX7_use_40 (fun H locs hP hD hS => ?_)
      have hP : va_P D vwCl (mw cI a (upd (upd g 0 0) 26 x6) d F) H := hP
      have hD : va_D A (mw cI a (upd (upd g 0 0) 26 x6) d F) := hD
      refine lv_iconst (v := 1) hx hb dX7_use_43 (by decide) ?_
      exact W.zret (v := 1) hx hb hr (rfl) (fun t ht hW => ⟨⟨_, (upd (upd g 0 0) 26 x6, d, F), rfl, ⟨by rw [e3] at c5; simp [spm, c2, c5], hI, rfl, by rw [e3] at c5; show x6 = _; rw [e6]; simp [spm, c2, c5], rfl⟩, by rw [ht]; exact hP, hD⟩, hS.F ht⟩) hS.2.2 dX7_use_44
    · refine lv_iconst (v := 0) hx hb dX7_use_31 (by decide) ?_
      exact W.zret (v := 0) hx hb hr (rfl) (fun t ht hW => ⟨⟨_, (upd g 0 0, d, F), rfl, ⟨by rw [e3] at c5; simp [spm, c2, c5], hI, rfl, by rw [e3] at c5; show g 26 = _; simp [spm, c2, c5], rfl⟩, by rw [ht]; exact hP, hD⟩, hS.F ht⟩) hS.2.2 dX7_use_32
set_option maxHeartbeats 4000000 in
set_option maxRecDepth 100000 in
theorem s_X7_limiter (l : Launch) (D : va_G) (cI : ClassId) (a : Nat → Nat) (sz : Nat) (g : Nat → Int32) (d : Nat → UInt64) (F : Nat → Nat → Int32) (p_p : Int32) (p_l : Int32) (p_w : Int32) (hI : MI g d F) : Met l yX7_limiter wsX7_limiter ({ frames := 1, cells := 0, slots := 0, locals := 22 }) (gP (KM D cI) D (mw cI a g d F) sz [.ref (a 0), .int p_p, .int p_l, .int p_w]) (va_Qi (fun (r : Int32) (u : SS) => (r = sp_lim p_p p_l p_w) ∧ MI u.1 u.2.1 u.2.2 ∧ u.1 3 = g 3 ∧ u.1 26 = g 26 ∧ u.2.2 0 = F 0) (gB D (wfM cI a) (va_A (mw cI a g d F) sz)) (va_A (mw cI a g d F) sz)) 0 0 (va_A (mw cI a g d F) sz) := by
  refine Met.ofW (cc := cX7_limiter) (maxL := 4) (ret := (some .boolean)) (by decide) rfl ?_
  intro p e s m args below meth c s₁ B hml hv
  obtain ⟨rfl, hsz, hP, hD0, hKK⟩ := hv
  have hx := B.exec
  have hb := B.bytes
  have hr := B.returns
  have hts := atoms_spec (ws := wsX7_limiter) B.pre
  have hown : s.vm.findClass RX7 = some m.cls := findClass_of_methodNamed B.named
  have hlocks := B.notSynchronized
  subst hsz
  have hK := hKK.1
  have hok := KM_ok D cI
  have hD := hD0.self (sz := s.heap.size)
  generalize hAe : va_A (mw cI a g d F) s.heap.size = A at hD ⊢
  have hi7 : ∀ w ∈ wsX70, w ∈ wsX7_limiter := fun w h => List.mem_cons_of_mem _ (List.mem_append_right _ h)
  have hA : ∀ q : Nat, s.heap.size ≤ q → A q := fun q h => by rw [← hAe]; exact Or.inr h
  have hS : va_S A s.heap s.heap [] := va_S.rf
  have hP : va_P D vwCl (mw cI a g d F) s.heap := hP
  have hl := lv_entry ([.ref ((a 0)), .int p_p, .int p_l, .int p_w]) (n := 4) (Nat.le_of_ble_eq_true rfl)
  rw [lg_entry_eq]
  generalize (lg_sl ([.ref ((a 0)), .int p_p, .int p_l, .int p_w]) ++ List.replicate (4 - (lg_sl ([.ref ((a 0)), .int p_p, .int p_l, .int p_w])).length) Slot.unset).toArray = ls at hl ⊢
  have hl : lv_has ls 4 [(0, .ref ((a 0))), (1, .int p_p), (2, .int p_l), (3, .int p_w)] := hl
  refine lv_aload_n hx hb dX7_limiter_0 rfl (lv_at hl 0 rfl) ?_
  refine lv_iconst (v := 0) hx hb dX7_limiter_1 (by decide) ?_
  refine va_put (D := D) (ci := 7) (v := .int 0) (ty := .int) (C := RX7) (T := TX7) (N := 41) hx hb hts hi7 tyX7 tyX7_ok nmX7 hown hK hP hD hS 0 rfl rfl 0 (by decide) (hts (.fieldLink RX7 96 "GuardedCallsModel" "thrown" "I") (by decide +kernel)) (fun _ h9 => h9) rfl (by decide +kernel) rfl rfl (Nat.le_of_ble_eq_true rfl) dX7_limiter_2 (fun H locs hP hD hS => ?_)
  have hP : va_P D vwCl (mw cI a (upd g 0 0) d F) H := hP
  have hD : va_D A (mw cI a (upd g 0 0) d F) := hD
  refine lv_iload_n hx hb dX7_limiter_5 rfl (lv_at hl 1 rfl) ?_
  refine lv_iconst (v := 1) hx hb dX7_limiter_6 (by decide) ?_
  refine lv_bipush (v := 50) hx hb dX7_limiter_7 (by decide) ?_
  refine gc_si (As := [.int p_p, .int 1, .int 50]) (rest := []) ⟨hx, hb, hml, hown, hts⟩ hP hD hS hA (c_X7_in l _ p_p 1 50) (va_cwS 3 hts gX7_limiter_X7_in rfl rfl rfl (by decide +kernel) ⟨Nat.le_of_ble_eq_true rfl, Nat.le_of_ble_eq_true rfl⟩) rfl hl.1 rfl (Nat.le_of_ble_eq_true rfl) dX7_limiter_9 ⟨Nat.le_of_ble_eq_true rfl, Nat.le_of_ble_eq_true rfl⟩ (fun r1 H locs hw1 hP hS => ?_)
  subst hw1
  refine lv_if_eq (tgt := 34) hx hb dX7_limiter_12 (by decide) (fun c2 => ?_) (fun c2 => ?_)
  · refine lv_iconst (v := 0) hx hb dX7_limiter_34 (by decide) ?_
    exact W.zret (v := 0) hx hb hr (rfl) (fun t ht hW => ⟨⟨_, (upd g 0 0, d, F), rfl, ⟨by simp [sp_lim, c2], hI, rfl, rfl, rfl⟩, by rw [ht]; exact hP, hD⟩, hS.F ht⟩) hS.2.2 dX7_limiter_35
  · refine lv_iload_n hx hb dX7_limiter_15 rfl (lv_at hl 2 rfl) ?_
    refine lv_iconst (v := 1) hx hb dX7_limiter_16 (by decide) ?_
    refine lv_iconst (v := 5) hx hb dX7_limiter_17 (by decide) ?_
    refine gc_si (As := [.int p_l, .int 1, .int 5]) (rest := []) ⟨hx, hb, hml, hown, hts⟩ hP hD hS hA (c_X7_in l _ p_l 1 5) (va_cwS 3 hts gX7_limiter_X7_in rfl rfl rfl (by decide +kernel) ⟨Nat.le_of_ble_eq_true rfl, Nat.le_of_ble_eq_true rfl⟩) rfl hl.1 rfl (Nat.le_of_ble_eq_true rfl) dX7_limiter_18 ⟨Nat.le_of_ble_eq_true rfl, Nat.le_of_ble_eq_true rfl⟩ (fun r3 H locs hw3 hP hS => ?_)
    subst hw3
    refine lv_if_eq (tgt := 34) hx hb dX7_limiter_21 (by decide) (fun c4 => ?_) (fun c4 => ?_)
    · refine lv_iconst (v := 0) hx hb dX7_limiter_34 (by decide) ?_
      exact W.zret (v := 0) hx hb hr (rfl) (fun t ht hW => ⟨⟨_, (upd g 0 0, d, F), rfl, ⟨by simp [sp_lim, c2, c4], hI, rfl, rfl, rfl⟩, by rw [ht]; exact hP, hD⟩, hS.F ht⟩) hS.2.2 dX7_limiter_35
    · refine lv_iload_n hx hb dX7_limiter_24 rfl (lv_at hl 3 rfl) ?_
      refine lv_iconst (v := 0) hx hb dX7_limiter_25 (by decide) ?_
      refine lv_bipush (v := 100) hx hb dX7_limiter_26 (by decide) ?_
      refine gc_si (As := [.int p_w, .int 0, .int 100]) (rest := []) ⟨hx, hb, hml, hown, hts⟩ hP hD hS hA (c_X7_in l _ p_w 0 100) (va_cwS 3 hts gX7_limiter_X7_in rfl rfl rfl (by decide +kernel) ⟨Nat.le_of_ble_eq_true rfl, Nat.le_of_ble_eq_true rfl⟩) rfl hl.1 rfl (Nat.le_of_ble_eq_true rfl) dX7_limiter_28 ⟨Nat.le_of_ble_eq_true rfl, Nat.le_of_ble_eq_true rfl⟩ (fun r5 H locs hw5 hP hS => ?_)
      subst hw5
      refine lv_if_ne (tgt := 36) hx hb dX7_limiter_31 (by decide) (fun c6 => ?_) (fun c6 => ?_)
      · refine lv_aload_n hx hb dX7_limiter_36 rfl (lv_at hl 0 rfl) ?_
        refine lv_iload_n hx hb dX7_limiter_37 rfl (lv_at hl 1 rfl) ?_
        refine va_put (D := D) (ci := 7) (v := .int p_p) (ty := .int) (C := RX7) (T := TX7) (N := 41) hx hb hts hi7 tyX7 tyX7_ok nmX7 hown hK hP hD hS 0 rfl rfl 27 (by decide) (hts (.fieldLink RX7 55 "GuardedCallsModel" "period" "I") (by decide +kernel)) (fun _ h9 => h9) rfl (by decide +kernel) rfl rfl (Nat.le_of_ble_eq_true rfl) dX7_limiter_38 (fun H locs hP hD hS => ?_)
        have hP : va_P D vwCl (mw cI a (upd (upd g 0 0) 27 p_p) d F) H := hP
        have hD : va_D A (mw cI a (upd (upd g 0 0) 27 p_p) d F) := hD
        have hI7 : MI (upd (upd g 0 0) 27 p_p) d F := ⟨hI.1, hI.2.1, hI.2.2.1, hI.2.2.2.1, bw_ne0 c2, hI.2.2.2.2.2.1, hI.2.2.2.2.2.2.1, hI.2.2.2.2.2.2.2.1, hI.2.2.2.2.2.2.2.2⟩
        refine lv_aload_n hx hb dX7_limiter_41 rfl (lv_at hl 0 rfl) ?_
        refine lv_iload_n hx hb dX7_limiter_42 rfl (lv_at hl 2 rfl) ?_
        refine va_put (D := D) (ci := 7) (v := .int p_l) (ty := .int) (C := RX7) (T := TX7) (N := 41) hx hb hts hi7 tyX7 tyX7_ok nmX7 hown hK hP hD hS 0 rfl rfl 28 (by decide) (hts (.fieldLink RX7 58 "GuardedCallsModel" "limit" "I") (by decide +kernel)) (fun _ h9 => h9) rfl (by decide +kernel) rfl rfl (Nat.le_of_ble_eq_true rfl) dX7_limiter_43 (fun H locs hP hD hS => ?_)
        have hP : va_P D vwCl (mw cI a (upd (upd (upd g 0 0) 27 p_p) 28 p_l) d F) H := hP
        have hD : va_D A (mw cI a (upd (upd (upd g 0 0) 27 p_p) 28 p_l) d F) := hD
        refine lv_aload_n hx hb dX7_limiter_46 rfl (lv_at hl 0 rfl) ?_
        refine lv_iload_n hx hb dX7_limiter_47 rfl (lv_at hl 3 rfl) ?_
        refine va_put (D := D) (ci := 7) (v := .int p_w) (ty := .int) (C := RX7) (T := TX7) (N := 41) hx hb hts hi7 tyX7 tyX7_ok nmX7 hown hK hP hD hS 0 rfl rfl 29 (by decide) (hts (.fieldLink RX7 61 "GuardedCallsModel" "patience" "I") (by decide +kernel)) (fun _ h9 => h9) rfl (by decide +kernel) rfl rfl (Nat.le_of_ble_eq_true rfl) dX7_limiter_48 (fun H locs hP hD hS => ?_)
        have hP : va_P D vwCl (mw cI a (upd (upd (upd (upd g 0 0) 27 p_p) 28 p_l) 29 p_w) d F) H := hP
        have hD : va_D A (mw cI a (upd (upd (upd (upd g 0 0) 27 p_p) 28 p_l) 29 p_w) d F) := hD
        refine lv_aload_n hx hb dX7_limiter_51 rfl (lv_at hl 0 rfl) ?_
        refine gc_vv (As := []) (rest := []) (w0 := mw cI a (upd (upd (upd (upd g 0 0) 27 p_p) 28 p_l) 29 p_w) d F) (wc := mw cI a (upd (upd (upd (upd g 0 0) 27 p_p) 28 p_l) 29 p_w) d F) (wr := []) (wf := wfM cI a) ⟨hx, hb, hml, hown, hts⟩ hKK hok hP hD hS hA [0, 1, 2, 3, 4, 5, 6] [] rfl rfl (by decide) (s_X7_renew l D cI a _ (upd (upd (upd (upd g 0 0) 27 p_p) 28 p_l) 29 p_w) d F hI7) (cwV 0 hts gX7_limiter_X7_renew rfl rfl rfl (by decide +kernel) ⟨Nat.le_of_ble_eq_true rfl, Nat.le_of_ble_eq_true rfl⟩) (va_recv hK hP (ci := 7) (q0 := 0) rfl rfl) rfl hl.1 rfl (Nat.le_of_ble_eq_true rfl) dX7_limiter_52 ⟨Nat.le_of_ble_eq_true rfl, Nat.le_of_ble_eq_true rfl⟩ (fun u8 H locs hw8 hP hD hS => ?_)
        obtain ⟨g8, d8, F8⟩ := u8
        have hP : va_P D vwCl (mw cI a g8 d8 F8) H := hP
        have hD : va_D A (mw cI a g8 d8 F8) := hD
        refine lv_iconst (v := 1) hx hb dX7_limiter_55 (by decide) ?_
        exact W.zret (v := 1) hx hb hr (rfl) (fun t ht hW => ⟨⟨_, (g8, d8, F8), rfl, ⟨by simp [sp_lim, c2, c4, c6], hw8.2.1, hw8.2.2.1, hw8.2.2.2.1, hw8.2.2.2.2.1⟩, by rw [ht]; exact hP, hD⟩, hS.F ht⟩) hS.2.2 dX7_limiter_56
      · refine lv_iconst (v := 0) hx hb dX7_limiter_34 (by decide) ?_
        exact W.zret (v := 0) hx hb hr (rfl) (fun t ht hW => ⟨⟨_, (upd g 0 0, d, F), rfl, ⟨by simp [sp_lim, c2, c4, c6], hI, rfl, rfl, rfl⟩, by rw [ht]; exact hP, hD⟩, hS.F ht⟩) hS.2.2 dX7_limiter_35
set_option maxHeartbeats 4000000 in
set_option maxRecDepth 100000 in
theorem s_X7_retry (l : Launch) (D : va_G) (cI : ClassId) (a : Nat → Nat) (sz : Nat) (g : Nat → Int32) (d : Nat → UInt64) (F : Nat → Nat → Int32) (p_x : Int32) (p_y : Int32) (hI : MI g d F) : Met l yX7_retry wsX7_retry ({ frames := 1, cells := 0, slots := 0, locals := 22 }) (gP (KM D cI) D (mw cI a g d F) sz [.ref (a 0), .int p_x, .int p_y]) (va_Qi (fun (r : Int32) (u : SS) => (r = sp_retry p_x p_y) ∧ MI u.1 u.2.1 u.2.2 ∧ u.1 3 = g 3 ∧ u.1 26 = g 26 ∧ u.2.2 0 = F 0) (gB D (wfM cI a) (va_A (mw cI a g d F) sz)) (va_A (mw cI a g d F) sz)) 0 0 (va_A (mw cI a g d F) sz) := by
  refine Met.ofW (cc := cX7_retry) (maxL := 3) (ret := (some .boolean)) (by decide) rfl ?_
  intro p e s m args below meth c s₁ B hml hv
  obtain ⟨rfl, hsz, hP, hD0, hKK⟩ := hv
  have hx := B.exec
  have hb := B.bytes
  have hr := B.returns
  have hts := atoms_spec (ws := wsX7_retry) B.pre
  have hown : s.vm.findClass RX7 = some m.cls := findClass_of_methodNamed B.named
  have hlocks := B.notSynchronized
  subst hsz
  have hK := hKK.1
  have hok := KM_ok D cI
  have hD := hD0.self (sz := s.heap.size)
  generalize hAe : va_A (mw cI a g d F) s.heap.size = A at hD ⊢
  have hi7 : ∀ w ∈ wsX70, w ∈ wsX7_retry := fun w h => List.mem_cons_of_mem _ (List.mem_append_right _ h)
  have hA : ∀ q : Nat, s.heap.size ≤ q → A q := fun q h => by rw [← hAe]; exact Or.inr h
  have hS : va_S A s.heap s.heap [] := va_S.rf
  have hP : va_P D vwCl (mw cI a g d F) s.heap := hP
  have hl := lv_entry ([.ref ((a 0)), .int p_x, .int p_y]) (n := 3) (Nat.le_of_ble_eq_true rfl)
  rw [lg_entry_eq]
  generalize (lg_sl ([.ref ((a 0)), .int p_x, .int p_y]) ++ List.replicate (3 - (lg_sl ([.ref ((a 0)), .int p_x, .int p_y])).length) Slot.unset).toArray = ls at hl ⊢
  have hl : lv_has ls 3 [(0, .ref ((a 0))), (1, .int p_x), (2, .int p_y)] := hl
  refine lv_aload_n hx hb dX7_retry_0 rfl (lv_at hl 0 rfl) ?_
  refine lv_iconst (v := 0) hx hb dX7_retry_1 (by decide) ?_
  refine va_put (D := D) (ci := 7) (v := .int 0) (ty := .int) (C := RX7) (T := TX7) (N := 41) hx hb hts hi7 tyX7 tyX7_ok nmX7 hown hK hP hD hS 0 rfl rfl 0 (by decide) (hts (.fieldLink RX7 96 "GuardedCallsModel" "thrown" "I") (by decide +kernel)) (fun _ h9 => h9) rfl (by decide +kernel) rfl rfl (Nat.le_of_ble_eq_true rfl) dX7_retry_2 (fun H locs hP hD hS => ?_)
  have hP : va_P D vwCl (mw cI a (upd g 0 0) d F) H := hP
  have hD : va_D A (mw cI a (upd g 0 0) d F) := hD
  refine lv_iload_n hx hb dX7_retry_5 rfl (lv_at hl 1 rfl) ?_
  refine lv_iconst (v := 1) hx hb dX7_retry_6 (by decide) ?_
  refine lv_iconst (v := 5) hx hb dX7_retry_7 (by decide) ?_
  refine gc_si (As := [.int p_x, .int 1, .int 5]) (rest := []) ⟨hx, hb, hml, hown, hts⟩ hP hD hS hA (c_X7_in l _ p_x 1 5) (va_cwS 3 hts gX7_retry_X7_in rfl rfl rfl (by decide +kernel) ⟨Nat.le_of_ble_eq_true rfl, Nat.le_of_ble_eq_true rfl⟩) rfl hl.1 rfl (Nat.le_of_ble_eq_true rfl) dX7_retry_8 ⟨Nat.le_of_ble_eq_true rfl, Nat.le_of_ble_eq_true rfl⟩ (fun r1 H locs hw1 hP hS => ?_)
  subst hw1
  refine lv_if_eq (tgt := 24) hx hb dX7_retry_11 (by decide) (fun c2 => ?_) (fun c2 => ?_)
  · refine lv_iconst (v := 0) hx hb dX7_retry_24 (by decide) ?_
    exact W.zret (v := 0) hx hb hr (rfl) (fun t ht hW => ⟨⟨_, (upd g 0 0, d, F), rfl, ⟨by simp [sp_retry, c2], hI, rfl, rfl, rfl⟩, by rw [ht]; exact hP, hD⟩, hS.F ht⟩) hS.2.2 dX7_retry_25
  · refine lv_iload_n hx hb dX7_retry_14 rfl (lv_at hl 2 rfl) ?_
    refine lv_iconst (v := 0) hx hb dX7_retry_15 (by decide) ?_
    refine lv_bipush (v := 63) hx hb dX7_retry_16 (by decide) ?_
    refine gc_si (As := [.int p_y, .int 0, .int 63]) (rest := []) ⟨hx, hb, hml, hown, hts⟩ hP hD hS hA (c_X7_in l _ p_y 0 63) (va_cwS 3 hts gX7_retry_X7_in rfl rfl rfl (by decide +kernel) ⟨Nat.le_of_ble_eq_true rfl, Nat.le_of_ble_eq_true rfl⟩) rfl hl.1 rfl (Nat.le_of_ble_eq_true rfl) dX7_retry_18 ⟨Nat.le_of_ble_eq_true rfl, Nat.le_of_ble_eq_true rfl⟩ (fun r3 H locs hw3 hP hS => ?_)
    subst hw3
    refine lv_if_ne (tgt := 26) hx hb dX7_retry_21 (by decide) (fun c4 => ?_) (fun c4 => ?_)
    · refine lv_aload_n hx hb dX7_retry_26 rfl (lv_at hl 0 rfl) ?_
      refine lv_iload_n hx hb dX7_retry_27 rfl (lv_at hl 1 rfl) ?_
      refine va_put (D := D) (ci := 7) (v := .int p_x) (ty := .int) (C := RX7) (T := TX7) (N := 41) hx hb hts hi7 tyX7 tyX7_ok nmX7 hown hK hP hD hS 0 rfl rfl 32 (by decide) (hts (.fieldLink RX7 67 "GuardedCallsModel" "attempts" "I") (by decide +kernel)) (fun _ h9 => h9) rfl (by decide +kernel) rfl rfl (Nat.le_of_ble_eq_true rfl) dX7_retry_28 (fun H locs hP hD hS => ?_)
      have hP : va_P D vwCl (mw cI a (upd (upd g 0 0) 32 p_x) d F) H := hP
      have hD : va_D A (mw cI a (upd (upd g 0 0) 32 p_x) d F) := hD
      refine lv_aload_n hx hb dX7_retry_31 rfl (lv_at hl 0 rfl) ?_
      refine lv_iload_n hx hb dX7_retry_32 rfl (lv_at hl 2 rfl) ?_
      refine va_put (D := D) (ci := 7) (v := .int p_y) (ty := .int) (C := RX7) (T := TX7) (N := 41) hx hb hts hi7 tyX7 tyX7_ok nmX7 hown hK hP hD hS 0 rfl rfl 33 (by decide) (hts (.fieldLink RX7 70 "GuardedCallsModel" "again" "I") (by decide +kernel)) (fun _ h9 => h9) rfl (by decide +kernel) rfl rfl (Nat.le_of_ble_eq_true rfl) dX7_retry_33 (fun H locs hP hD hS => ?_)
      have hP : va_P D vwCl (mw cI a (upd (upd (upd g 0 0) 32 p_x) 33 p_y) d F) H := hP
      have hD : va_D A (mw cI a (upd (upd (upd g 0 0) 32 p_x) 33 p_y) d F) := hD
      refine lv_iconst (v := 1) hx hb dX7_retry_36 (by decide) ?_
      exact W.zret (v := 1) hx hb hr (rfl) (fun t ht hW => ⟨⟨_, (upd (upd (upd g 0 0) 32 p_x) 33 p_y, d, F), rfl, ⟨by simp [sp_retry, c2, c4], hI, rfl, rfl, rfl⟩, by rw [ht]; exact hP, hD⟩, hS.F ht⟩) hS.2.2 dX7_retry_37
    · refine lv_iconst (v := 0) hx hb dX7_retry_24 (by decide) ?_
      exact W.zret (v := 0) hx hb hr (rfl) (fun t ht hW => ⟨⟨_, (upd g 0 0, d, F), rfl, ⟨by simp [sp_retry, c2, c4], hI, rfl, rfl, rfl⟩, by rw [ht]; exact hP, hD⟩, hS.F ht⟩) hS.2.2 dX7_retry_25
set_option maxHeartbeats 4000000 in
set_option maxRecDepth 100000 in
theorem s_X7_backoff (l : Launch) (D : va_G) (cI : ClassId) (a : Nat → Nat) (sz : Nat) (g : Nat → Int32) (d : Nat → UInt64) (F : Nat → Nat → Int32) (p_f : UInt64) (p_t : UInt64) (p_m : UInt64) (hI : MI g d F) : Met l yX7_backoff wsX7_backoff ({ frames := 0, cells := 0, slots := 0, locals := 0 }) (gP (KM D cI) D (mw cI a g d F) sz [.ref (a 0), .double p_f, .double p_t, .double p_m]) (va_Qi (fun (r : Int32) (u : SS) => (r = sp_back p_f p_t p_m) ∧ MI u.1 u.2.1 u.2.2 ∧ u.1 3 = g 3 ∧ u.1 26 = g 26 ∧ u.2.2 0 = F 0) (gB D (wfM cI a) (va_A (mw cI a g d F) sz)) (va_A (mw cI a g d F) sz)) 0 0 (va_A (mw cI a g d F) sz) := by
  refine Met.ofW (cc := cX7_backoff) (maxL := 7) (ret := (some .boolean)) (by decide) rfl ?_
  intro p e s m args below meth c s₁ B hml hv
  obtain ⟨rfl, hsz, hP, hD0, hKK⟩ := hv
  have hx := B.exec
  have hb := B.bytes
  have hr := B.returns
  have hts := atoms_spec (ws := wsX7_backoff) B.pre
  have hown : s.vm.findClass RX7 = some m.cls := findClass_of_methodNamed B.named
  have hlocks := B.notSynchronized
  subst hsz
  have hK := hKK.1
  have hok := KM_ok D cI
  have hD := hD0.self (sz := s.heap.size)
  generalize hAe : va_A (mw cI a g d F) s.heap.size = A at hD ⊢
  have hi7 : ∀ w ∈ wsX70, w ∈ wsX7_backoff := fun w h => List.mem_cons_of_mem _ (List.mem_append_right _ h)
  have hA : ∀ q : Nat, s.heap.size ≤ q → A q := fun q h => by rw [← hAe]; exact Or.inr h
  have hS : va_S A s.heap s.heap [] := va_S.rf
  have hP : va_P D vwCl (mw cI a g d F) s.heap := hP
  have hl := lv_entry ([.ref ((a 0)), .double p_f, .double p_t, .double p_m]) (n := 7) (Nat.le_of_ble_eq_true rfl)
  rw [lg_entry_eq]
  generalize (lg_sl ([.ref ((a 0)), .double p_f, .double p_t, .double p_m]) ++ List.replicate (7 - (lg_sl ([.ref ((a 0)), .double p_f, .double p_t, .double p_m])).length) Slot.unset).toArray = ls at hl ⊢
  have hl : lv_has ls 7 [(0, .ref ((a 0))), (1, .double p_f), (3, .double p_t), (5, .double p_m)] := hl
  refine lv_aload_n hx hb dX7_backoff_0 rfl (lv_at hl 0 rfl) ?_
  refine lv_iconst (v := 0) hx hb dX7_backoff_1 (by decide) ?_
  refine va_put (D := D) (ci := 7) (v := .int 0) (ty := .int) (C := RX7) (T := TX7) (N := 41) hx hb hts hi7 tyX7 tyX7_ok nmX7 hown hK hP hD hS 0 rfl rfl 0 (by decide) (hts (.fieldLink RX7 96 "GuardedCallsModel" "thrown" "I") (by decide +kernel)) (fun _ h9 => h9) rfl (by decide +kernel) rfl rfl (Nat.le_of_ble_eq_true rfl) dX7_backoff_2 (fun H locs hP hD hS => ?_)
  have hP : va_P D vwCl (mw cI a (upd g 0 0) d F) H := hP
  have hD : va_D A (mw cI a (upd g 0 0) d F) := hD
  refine lv_dload_n hx hb dX7_backoff_5 rfl (lv_at hl 1 rfl) ?_
  refine lv_dconst0 hx hb dX7_backoff_6 ?_
  refine lv_dcmp hx hb dX7_backoff_7 ?_
  refine lv_if_lt (tgt := 51) hx hb dX7_backoff_8 (by decide) (fun c1 => ?_) (fun c1 => ?_)
  · refine lv_iconst (v := 0) hx hb dX7_backoff_51 (by decide) ?_
    exact W.zret (v := 0) hx hb hr (rfl) (fun t ht hW => ⟨⟨_, (upd g 0 0, d, F), rfl, ⟨by simp [sp_back, bb, c1], hI, rfl, rfl, rfl⟩, by rw [ht]; exact hP, hD⟩, hS.F ht⟩) hS.2.2 dX7_backoff_52
  · refine lv_dload_n hx hb dX7_backoff_11 rfl (lv_at hl 1 rfl) ?_
    refine lv_ldc2d (v := 4632233691727265792) hx hb hown (hts (.constantDouble RX7 38 (4632233691727265792)) (by decide +kernel)) dX7_backoff_12 ?_
    refine lv_dcmp hx hb dX7_backoff_15 ?_
    refine lv_if_gt (tgt := 51) hx hb dX7_backoff_16 (by decide) (fun c2 => ?_) (fun c2 => ?_)
    · refine lv_iconst (v := 0) hx hb dX7_backoff_51 (by decide) ?_
      exact W.zret (v := 0) hx hb hr (rfl) (fun t ht hW => ⟨⟨_, (upd g 0 0, d, F), rfl, ⟨by simp [sp_back, bb, c1, c2], hI, rfl, rfl, rfl⟩, by rw [ht]; exact hP, hD⟩, hS.F ht⟩) hS.2.2 dX7_backoff_52
    · refine lv_dload_n hx hb dX7_backoff_19 rfl (lv_at hl 2 rfl) ?_
      refine lv_ldc2d (v := 4602678819172646912) hx hb hown (hts (.constantDouble RX7 196 (4602678819172646912)) (by decide +kernel)) dX7_backoff_20 ?_
      refine lv_dcmp hx hb dX7_backoff_23 ?_
      refine lv_if_lt (tgt := 51) hx hb dX7_backoff_24 (by decide) (fun c3 => ?_) (fun c3 => ?_)
      · refine lv_iconst (v := 0) hx hb dX7_backoff_51 (by decide) ?_
        exact W.zret (v := 0) hx hb hr (rfl) (fun t ht hW => ⟨⟨_, (upd g 0 0, d, F), rfl, ⟨by simp [sp_back, bb, c1, c2, c3], hI, rfl, rfl, rfl⟩, by rw [ht]; exact hP, hD⟩, hS.F ht⟩) hS.2.2 dX7_backoff_52
      · refine lv_dload_n hx hb dX7_backoff_27 rfl (lv_at hl 2 rfl) ?_
        refine lv_ldc2d (v := 4616189618054758400) hx hb hown (hts (.constantDouble RX7 198 (4616189618054758400)) (by decide +kernel)) dX7_backoff_28 ?_
        refine lv_dcmp hx hb dX7_backoff_31 ?_
        refine lv_if_gt (tgt := 51) hx hb dX7_backoff_32 (by decide) (fun c4 => ?_) (fun c4 => ?_)
        · refine lv_iconst (v := 0) hx hb dX7_backoff_51 (by decide) ?_
          exact W.zret (v := 0) hx hb hr (rfl) (fun t ht hW => ⟨⟨_, (upd g 0 0, d, F), rfl, ⟨by simp [sp_back, bb, c1, c2, c3, c4], hI, rfl, rfl, rfl⟩, by rw [ht]; exact hP, hD⟩, hS.F ht⟩) hS.2.2 dX7_backoff_52
        · refine lv_dload hx hb dX7_backoff_35 (lv_at hl 3 rfl) ?_
          refine lv_dconst0 hx hb dX7_backoff_37 ?_
          refine lv_dcmp hx hb dX7_backoff_38 ?_
          refine lv_if_lt (tgt := 51) hx hb dX7_backoff_39 (by decide) (fun c5 => ?_) (fun c5 => ?_)
          · refine lv_iconst (v := 0) hx hb dX7_backoff_51 (by decide) ?_
            exact W.zret (v := 0) hx hb hr (rfl) (fun t ht hW => ⟨⟨_, (upd g 0 0, d, F), rfl, ⟨by simp [sp_back, bb, c1, c2, c3, c4, c5], hI, rfl, rfl, rfl⟩, by rw [ht]; exact hP, hD⟩, hS.F ht⟩) hS.2.2 dX7_backoff_52
          · refine lv_dload hx hb dX7_backoff_42 (lv_at hl 3 rfl) ?_
            refine lv_ldc2d (v := 4636737291354636288) hx hb hown (hts (.constantDouble RX7 44 (4636737291354636288)) (by decide +kernel)) dX7_backoff_44 ?_
            refine lv_dcmp hx hb dX7_backoff_47 ?_
            refine lv_if_le (tgt := 53) hx hb dX7_backoff_48 (by decide) (fun c6 => ?_) (fun c6 => ?_)
            · refine lv_aload_n hx hb dX7_backoff_53 rfl (lv_at hl 0 rfl) ?_
              refine lv_dload_n hx hb dX7_backoff_54 rfl (lv_at hl 1 rfl) ?_
              refine va_put (D := D) (ci := 7) (v := .double p_f) (ty := .double) (C := RX7) (T := TX7) (N := 41) hx hb hts hi7 tyX7 tyX7_ok nmX7 hown hK hP hD hS 0 rfl rfl 34 (by decide) (hts (.fieldLink RX7 73 "GuardedCallsModel" "first" "D") (by decide +kernel)) (fun _ h9 => h9) rfl (by decide +kernel) rfl rfl (Nat.le_of_ble_eq_true rfl) dX7_backoff_55 (fun H locs hP hD hS => ?_)
              have hP : va_P D vwCl (mw cI a (upd g 0 0) (vf_upd d 34 p_f) F) H := hP
              have hD : va_D A (mw cI a (upd g 0 0) (vf_upd d 34 p_f) F) := hD
              have hI7 : MI (upd g 0 0) (vf_upd d 34 p_f) F := ⟨hI.1, hI.2.1, ⟨cl_N1 c1, hI.2.2.1.2⟩, hI.2.2.2.1, hI.2.2.2.2.1, hI.2.2.2.2.2.1, hI.2.2.2.2.2.2.1, hI.2.2.2.2.2.2.2.1, hI.2.2.2.2.2.2.2.2⟩
              refine lv_aload_n hx hb dX7_backoff_58 rfl (lv_at hl 0 rfl) ?_
              refine lv_dload_n hx hb dX7_backoff_59 rfl (lv_at hl 2 rfl) ?_
              refine va_put (D := D) (ci := 7) (v := .double p_t) (ty := .double) (C := RX7) (T := TX7) (N := 41) hx hb hts hi7 tyX7 tyX7_ok nmX7 hown hK hP hD hS 0 rfl rfl 35 (by decide) (hts (.fieldLink RX7 78 "GuardedCallsModel" "times" "D") (by decide +kernel)) (fun _ h9 => h9) rfl (by decide +kernel) rfl rfl (Nat.le_of_ble_eq_true rfl) dX7_backoff_60 (fun H locs hP hD hS => ?_)
              have hP : va_P D vwCl (mw cI a (upd g 0 0) (vf_upd (vf_upd d 34 p_f) 35 p_t) F) H := hP
              have hD : va_D A (mw cI a (upd g 0 0) (vf_upd (vf_upd d 34 p_f) 35 p_t) F) := hD
              have hI8 : MI (upd g 0 0) (vf_upd (vf_upd d 34 p_f) 35 p_t) F := ⟨hI7.1, hI7.2.1, ⟨hI7.2.2.1.1, bb_N2 (bb_of c3 c4)⟩, hI7.2.2.2.1, hI7.2.2.2.2.1, hI7.2.2.2.2.2.1, hI7.2.2.2.2.2.2.1, hI7.2.2.2.2.2.2.2.1, hI7.2.2.2.2.2.2.2.2⟩
              refine lv_aload_n hx hb dX7_backoff_63 rfl (lv_at hl 0 rfl) ?_
              refine lv_dload hx hb dX7_backoff_64 (lv_at hl 3 rfl) ?_
              refine va_put (D := D) (ci := 7) (v := .double p_m) (ty := .double) (C := RX7) (T := TX7) (N := 41) hx hb hts hi7 tyX7 tyX7_ok nmX7 hown hK hP hD hS 0 rfl rfl 36 (by decide) (hts (.fieldLink RX7 83 "GuardedCallsModel" "longest" "D") (by decide +kernel)) (fun _ h9 => h9) rfl (by decide +kernel) rfl rfl (Nat.le_of_ble_eq_true rfl) dX7_backoff_66 (fun H locs hP hD hS => ?_)
              have hP : va_P D vwCl (mw cI a (upd g 0 0) (vf_upd (vf_upd (vf_upd d 34 p_f) 35 p_t) 36 p_m) F) H := hP
              have hD : va_D A (mw cI a (upd g 0 0) (vf_upd (vf_upd (vf_upd d 34 p_f) 35 p_t) 36 p_m) F) := hD
              refine lv_iconst (v := 1) hx hb dX7_backoff_69 (by decide) ?_
              exact W.zret (v := 1) hx hb hr (rfl) (fun t ht hW => ⟨⟨_, (upd g 0 0, vf_upd (vf_upd (vf_upd d 34 p_f) 35 p_t) 36 p_m, F), rfl, ⟨by simp [sp_back, bb, c1, c2, c3, c4, c5, c6], hI8, rfl, rfl, rfl⟩, by rw [ht]; exact hP, hD⟩, hS.F ht⟩) hS.2.2 dX7_backoff_70
            · refine lv_iconst (v := 0) hx hb dX7_backoff_51 (by decide) ?_
              exact W.zret (v := 0) hx hb hr (rfl) (fun t ht hW => ⟨⟨_, (upd g 0 0, d, F), rfl, ⟨by simp [sp_back, bb, c1, c2, c3, c4, c5, c6], hI, rfl, rfl, rfl⟩, by rw [ht]; exact hP, hD⟩, hS.F ht⟩) hS.2.2 dX7_backoff_52
set_option maxHeartbeats 4000000 in
set_option maxRecDepth 100000 in
theorem s_X7_timer (l : Launch) (D : va_G) (cI : ClassId) (a : Nat → Nat) (sz : Nat) (g : Nat → Int32) (d : Nat → UInt64) (F : Nat → Nat → Int32) (p_k : Int32) (hI : MI g d F) : Met l yX7_timer wsX7_timer ({ frames := 1, cells := 0, slots := 0, locals := 22 }) (gP (KM D cI) D (mw cI a g d F) sz [.ref (a 0), .int p_k]) (va_Qi (fun (r : Int32) (u : SS) => (r = sp1 p_k 0 100) ∧ MI u.1 u.2.1 u.2.2 ∧ u.1 3 = g 3 ∧ u.1 26 = g 26 ∧ u.2.2 0 = F 0) (gB D (wfM cI a) (va_A (mw cI a g d F) sz)) (va_A (mw cI a g d F) sz)) 0 0 (va_A (mw cI a g d F) sz) := by
  refine Met.ofW (cc := cX7_timer) (maxL := 2) (ret := (some .boolean)) (by decide) rfl ?_
  intro p e s m args below meth c s₁ B hml hv
  obtain ⟨rfl, hsz, hP, hD0, hKK⟩ := hv
  have hx := B.exec
  have hb := B.bytes
  have hr := B.returns
  have hts := atoms_spec (ws := wsX7_timer) B.pre
  have hown : s.vm.findClass RX7 = some m.cls := findClass_of_methodNamed B.named
  have hlocks := B.notSynchronized
  subst hsz
  have hK := hKK.1
  have hok := KM_ok D cI
  have hD := hD0.self (sz := s.heap.size)
  generalize hAe : va_A (mw cI a g d F) s.heap.size = A at hD ⊢
  have hi7 : ∀ w ∈ wsX70, w ∈ wsX7_timer := fun w h => List.mem_cons_of_mem _ (List.mem_append_right _ h)
  have hA : ∀ q : Nat, s.heap.size ≤ q → A q := fun q h => by rw [← hAe]; exact Or.inr h
  have hS : va_S A s.heap s.heap [] := va_S.rf
  have hP : va_P D vwCl (mw cI a g d F) s.heap := hP
  have hl := lv_entry ([.ref ((a 0)), .int p_k]) (n := 2) (Nat.le_of_ble_eq_true rfl)
  rw [lg_entry_eq]
  generalize (lg_sl ([.ref ((a 0)), .int p_k]) ++ List.replicate (2 - (lg_sl ([.ref ((a 0)), .int p_k])).length) Slot.unset).toArray = ls at hl ⊢
  have hl : lv_has ls 2 [(0, .ref ((a 0))), (1, .int p_k)] := hl
  refine lv_aload_n hx hb dX7_timer_0 rfl (lv_at hl 0 rfl) ?_
  refine lv_iconst (v := 0) hx hb dX7_timer_1 (by decide) ?_
  refine va_put (D := D) (ci := 7) (v := .int 0) (ty := .int) (C := RX7) (T := TX7) (N := 41) hx hb hts hi7 tyX7 tyX7_ok nmX7 hown hK hP hD hS 0 rfl rfl 0 (by decide) (hts (.fieldLink RX7 96 "GuardedCallsModel" "thrown" "I") (by decide +kernel)) (fun _ h9 => h9) rfl (by decide +kernel) rfl rfl (Nat.le_of_ble_eq_true rfl) dX7_timer_2 (fun H locs hP hD hS => ?_)
  have hP : va_P D vwCl (mw cI a (upd g 0 0) d F) H := hP
  have hD : va_D A (mw cI a (upd g 0 0) d F) := hD
  refine lv_iload_n hx hb dX7_timer_5 rfl (lv_at hl 1 rfl) ?_
  refine lv_iconst (v := 0) hx hb dX7_timer_6 (by decide) ?_
  refine lv_bipush (v := 100) hx hb dX7_timer_7 (by decide) ?_
  refine gc_si (As := [.int p_k, .int 0, .int 100]) (rest := []) ⟨hx, hb, hml, hown, hts⟩ hP hD hS hA (c_X7_in l _ p_k 0 100) (va_cwS 3 hts gX7_timer_X7_in rfl rfl rfl (by decide +kernel) ⟨Nat.le_of_ble_eq_true rfl, Nat.le_of_ble_eq_true rfl⟩) rfl hl.1 rfl (Nat.le_of_ble_eq_true rfl) dX7_timer_9 ⟨Nat.le_of_ble_eq_true rfl, Nat.le_of_ble_eq_true rfl⟩ (fun r1 H locs hw1 hP hS => ?_)
  subst hw1
  refine lv_if_ne (tgt := 17) hx hb dX7_timer_12 (by decide) (fun c2 => ?_) (fun c2 => ?_)
  · refine lv_aload_n hx hb dX7_timer_17 rfl (lv_at hl 0 rfl) ?_
    refine lv_iload_n hx hb dX7_timer_18 rfl (lv_at hl 1 rfl) ?_
    refine va_put (D := D) (ci := 7) (v := .int p_k) (ty := .int) (C := RX7) (T := TX7) (N := 41) hx hb hts hi7 tyX7 tyX7_ok nmX7 hown hK hP hD hS 0 rfl rfl 38 (by decide) (hts (.fieldLink RX7 86 "GuardedCallsModel" "span" "I") (by decide +kernel)) (fun _ h9 => h9) rfl (by decide +kernel) rfl rfl (Nat.le_of_ble_eq_true rfl) dX7_timer_19 (fun H locs hP hD hS => ?_)
    have hP : va_P D vwCl (mw cI a (upd (upd g 0 0) 38 p_k) d F) H := hP
    have hD : va_D A (mw cI a (upd (upd g 0 0) 38 p_k) d F) := hD
    refine lv_iconst (v := 1) hx hb dX7_timer_22 (by decide) ?_
    exact W.zret (v := 1) hx hb hr (rfl) (fun t ht hW => ⟨⟨_, (upd (upd g 0 0) 38 p_k, d, F), rfl, ⟨by simp [sp1, c2], hI, rfl, rfl, rfl⟩, by rw [ht]; exact hP, hD⟩, hS.F ht⟩) hS.2.2 dX7_timer_23
  · refine lv_iconst (v := 0) hx hb dX7_timer_15 (by decide) ?_
    exact W.zret (v := 0) hx hb hr (rfl) (fun t ht hW => ⟨⟨_, (upd g 0 0, d, F), rfl, ⟨by simp [sp1, c2], hI, rfl, rfl, rfl⟩, by rw [ht]; exact hP, hD⟩, hS.F ht⟩) hS.2.2 dX7_timer_16
set_option maxHeartbeats 4000000 in
set_option maxRecDepth 100000 in
theorem s_X7_strip (l : Launch) (D : va_G) (cI : ClassId) (a : Nat → Nat) (sz : Nat) (g : Nat → Int32) (d : Nat → UInt64) (F : Nat → Nat → Int32) (hI : MI g d F) : Met l yX7_strip wsX7_strip ({ frames := 0, cells := 0, slots := 0, locals := 0 }) (gP (KM D cI) D (mw cI a g d F) sz [.ref (a 0)]) (va_Qi (fun (r : Int32) (u : SS) => r = g 3 ∧ MI u.1 u.2.1 u.2.2 ∧ u.1 3 = 0 ∧ u.1 26 = g 26 ∧ u.2.2 0 = F 0) (gB D (wfM cI a) (va_A (mw cI a g d F) sz)) (va_A (mw cI a g d F) sz)) 0 0 (va_A (mw cI a g d F) sz) := by
  refine Met.ofW (cc := cX7_strip) (maxL := 2) (ret := (some .int)) (by decide) rfl ?_
  intro p e s m args below meth c s₁ B hml hv
  obtain ⟨rfl, hsz, hP, hD0, hKK⟩ := hv
  have hx := B.exec
  have hb := B.bytes
  have hr := B.returns
  have hts := atoms_spec (ws := wsX7_strip) B.pre
  have hown : s.vm.findClass RX7 = some m.cls := findClass_of_methodNamed B.named
  have hlocks := B.notSynchronized
  subst hsz
  have hK := hKK.1
  have hok := KM_ok D cI
  have hD := hD0.self (sz := s.heap.size)
  generalize hAe : va_A (mw cI a g d F) s.heap.size = A at hD ⊢
  have hi7 : ∀ w ∈ wsX70, w ∈ wsX7_strip := fun w h => List.mem_cons_of_mem _ (List.mem_append_right _ h)
  have hA : ∀ q : Nat, s.heap.size ≤ q → A q := fun q h => by rw [← hAe]; exact Or.inr h
  have hS : va_S A s.heap s.heap [] := va_S.rf
  have hP : va_P D vwCl (mw cI a g d F) s.heap := hP
  have hl := lv_entry ([.ref ((a 0))]) (n := 2) (Nat.le_of_ble_eq_true rfl)
  rw [lg_entry_eq]
  generalize (lg_sl ([.ref ((a 0))]) ++ List.replicate (2 - (lg_sl ([.ref ((a 0))])).length) Slot.unset).toArray = ls at hl ⊢
  have hl : lv_has ls 2 [(0, .ref ((a 0)))] := hl
  refine lv_aload_n hx hb dX7_strip_0 rfl (lv_at hl 0 rfl) ?_
  refine lv_iconst (v := 0) hx hb dX7_strip_1 (by decide) ?_
  refine va_put (D := D) (ci := 7) (v := .int 0) (ty := .int) (C := RX7) (T := TX7) (N := 41) hx hb hts hi7 tyX7 tyX7_ok nmX7 hown hK hP hD hS 0 rfl rfl 0 (by decide) (hts (.fieldLink RX7 96 "GuardedCallsModel" "thrown" "I") (by decide +kernel)) (fun _ h9 => h9) rfl (by decide +kernel) rfl rfl (Nat.le_of_ble_eq_true rfl) dX7_strip_2 (fun H locs hP hD hS => ?_)
  have hP : va_P D vwCl (mw cI a (upd g 0 0) d F) H := hP
  have hD : va_D A (mw cI a (upd g 0 0) d F) := hD
  refine lv_aload_n hx hb dX7_strip_5 rfl (lv_at hl 0 rfl) ?_
  refine va_get (D := D) (ci := 7) (v := .int ((g 3))) (C := RX7) (T := TX7) (N := 41) hx hb hts hi7 hown hK hP 0 rfl rfl 3 (by decide) (hts (.fieldLink RX7 174 "GuardedCallsModel" "height" "I") (by decide +kernel)) (fun _ h9 => h9) rfl dX7_strip_6 ?_
  refine lv_istore_n (lv' := [(1, .int ((g 3))), (0, .ref ((a 0)))]) hx hb dX7_strip_9 rfl hl (by decide) rfl (fun ls hl => ?_)
  refine lv_aload_n hx hb dX7_strip_10 rfl (lv_at hl 1 rfl) ?_
  refine lv_iconst (v := 0) hx hb dX7_strip_11 (by decide) ?_
  refine va_put (D := D) (ci := 7) (v := .int 0) (ty := .int) (C := RX7) (T := TX7) (N := 41) hx hb hts hi7 tyX7 tyX7_ok nmX7 hown hK hP hD hS 0 rfl rfl 3 (by decide) (hts (.fieldLink RX7 174 "GuardedCallsModel" "height" "I") (by decide +kernel)) (fun _ h9 => h9) rfl (by decide +kernel) rfl rfl (Nat.le_of_ble_eq_true rfl) dX7_strip_12 (fun H locs hP hD hS => ?_)
  have hP : va_P D vwCl (mw cI a (upd (upd g 0 0) 3 0) d F) H := hP
  have hD : va_D A (mw cI a (upd (upd g 0 0) 3 0) d F) := hD
  refine lv_iload_n hx hb dX7_strip_15 rfl (lv_at hl 0 rfl) ?_
  exact W.iret (v := ((g 3))) hx hb hr (fun t ht hW => ⟨⟨_, (upd (upd g 0 0) 3 0, d, F), rfl, ⟨rfl, ⟨hI.1, hI.2.1, hI.2.2.1, hI.2.2.2.1, hI.2.2.2.2.1, hI.2.2.2.2.2.1, stk_0, hI.2.2.2.2.2.2.2.1, hI.2.2.2.2.2.2.2.2⟩, rfl, rfl, rfl⟩, by rw [ht]; exact hP, hD⟩, hS.F ht⟩) hS.2.2 dX7_strip_16
set_option maxHeartbeats 4000000 in
set_option maxRecDepth 100000 in
theorem s_X7_outcome (l : Launch) (D : va_G) (cI : ClassId) (a : Nat → Nat) (sz : Nat) (g : Nat → Int32) (d : Nat → UInt64) (F : Nat → Nat → Int32) (p_x : Int32) (p_y : Int32) (p_z : Int32) (hI : MI g d F) : Met l yX7_outcome wsX7_outcome ({ frames := 1, cells := 0, slots := 0, locals := 22 }) (gP (KM D cI) D (mw cI a g d F) sz [.ref (a 0), .int p_x, .int p_y, .int p_z]) (va_Qi (fun (r : Int32) (u : SS) => (r = 0 ∨ r = 1) ∧ MI u.1 u.2.1 u.2.2 ∧ u.1 3 = g 3 ∧ u.1 26 = g 26 ∧ u.2.2 0 = F 0) (gB D (wfM cI a) (va_A (mw cI a g d F) sz)) (va_A (mw cI a g d F) sz)) 0 0 (va_A (mw cI a g d F) sz) := by
  refine Met.ofW (cc := cX7_outcome) (maxL := 4) (ret := (some .boolean)) (by decide) rfl ?_
  intro p e s m args below meth c s₁ B hml hv
  obtain ⟨rfl, hsz, hP, hD0, hKK⟩ := hv
  have hx := B.exec
  have hb := B.bytes
  have hr := B.returns
  have hts := atoms_spec (ws := wsX7_outcome) B.pre
  have hown : s.vm.findClass RX7 = some m.cls := findClass_of_methodNamed B.named
  have hlocks := B.notSynchronized
  subst hsz
  have hK := hKK.1
  have hok := KM_ok D cI
  have hD := hD0.self (sz := s.heap.size)
  generalize hAe : va_A (mw cI a g d F) s.heap.size = A at hD ⊢
  have hi7 : ∀ w ∈ wsX70, w ∈ wsX7_outcome := fun w h => List.mem_cons_of_mem _ (List.mem_append_right _ h)
  have hA : ∀ q : Nat, s.heap.size ≤ q → A q := fun q h => by rw [← hAe]; exact Or.inr h
  have hS : va_S A s.heap s.heap [] := va_S.rf
  have hP : va_P D vwCl (mw cI a g d F) s.heap := hP
  have hl := lv_entry ([.ref ((a 0)), .int p_x, .int p_y, .int p_z]) (n := 4) (Nat.le_of_ble_eq_true rfl)
  rw [lg_entry_eq]
  generalize (lg_sl ([.ref ((a 0)), .int p_x, .int p_y, .int p_z]) ++ List.replicate (4 - (lg_sl ([.ref ((a 0)), .int p_x, .int p_y, .int p_z])).length) Slot.unset).toArray = ls at hl ⊢
  have hl : lv_has ls 4 [(0, .ref ((a 0))), (1, .int p_x), (2, .int p_y), (3, .int p_z)] := hl
  refine lv_aload_n hx hb dX7_outcome_0 rfl (lv_at hl 0 rfl) ?_
  refine lv_iconst (v := 0) hx hb dX7_outcome_1 (by decide) ?_
  refine va_put (D := D) (ci := 7) (v := .int 0) (ty := .int) (C := RX7) (T := TX7) (N := 41) hx hb hts hi7 tyX7 tyX7_ok nmX7 hown hK hP hD hS 0 rfl rfl 0 (by decide) (hts (.fieldLink RX7 96 "GuardedCallsModel" "thrown" "I") (by decide +kernel)) (fun _ h9 => h9) rfl (by decide +kernel) rfl rfl (Nat.le_of_ble_eq_true rfl) dX7_outcome_2 (fun H locs hP hD hS => ?_)
  have hP : va_P D vwCl (mw cI a (upd g 0 0) d F) H := hP
  have hD : va_D A (mw cI a (upd g 0 0) d F) := hD
  refine lv_iload_n hx hb dX7_outcome_5 rfl (lv_at hl 1 rfl) ?_
  refine lv_iconst (v := 0) hx hb dX7_outcome_6 (by decide) ?_
  refine lv_iconst (v := 2) hx hb dX7_outcome_7 (by decide) ?_
  refine gc_si (As := [.int p_x, .int 0, .int 2]) (rest := []) ⟨hx, hb, hml, hown, hts⟩ hP hD hS hA (c_X7_in l _ p_x 0 2) (va_cwS 3 hts gX7_outcome_X7_in rfl rfl rfl (by decide +kernel) ⟨Nat.le_of_ble_eq_true rfl, Nat.le_of_ble_eq_true rfl⟩) rfl hl.1 rfl (Nat.le_of_ble_eq_true rfl) dX7_outcome_8 ⟨Nat.le_of_ble_eq_true rfl, Nat.le_of_ble_eq_true rfl⟩ (fun r1 H locs hw1 hP hS => ?_)
  subst hw1
  refine lv_if_eq (tgt := 33) hx hb dX7_outcome_11 (by decide) (fun c2 => ?_) (fun c2 => ?_)
  · refine lv_iconst (v := 0) hx hb dX7_outcome_33 (by decide) ?_
    exact W.zret (v := 0) hx hb hr (rfl) (fun t ht hW => ⟨⟨_, (upd g 0 0, d, F), rfl, ⟨Or.inl rfl, hI, rfl, rfl, rfl⟩, by rw [ht]; exact hP, hD⟩, hS.F ht⟩) hS.2.2 dX7_outcome_34
  · refine lv_iload_n hx hb dX7_outcome_14 rfl (lv_at hl 2 rfl) ?_
    refine lv_iconst (v := 0) hx hb dX7_outcome_15 (by decide) ?_
    refine lv_bipush (v := 50) hx hb dX7_outcome_16 (by decide) ?_
    refine gc_si (As := [.int p_y, .int 0, .int 50]) (rest := []) ⟨hx, hb, hml, hown, hts⟩ hP hD hS hA (c_X7_in l _ p_y 0 50) (va_cwS 3 hts gX7_outcome_X7_in rfl rfl rfl (by decide +kernel) ⟨Nat.le_of_ble_eq_true rfl, Nat.le_of_ble_eq_true rfl⟩) rfl hl.1 rfl (Nat.le_of_ble_eq_true rfl) dX7_outcome_18 ⟨Nat.le_of_ble_eq_true rfl, Nat.le_of_ble_eq_true rfl⟩ (fun r3 H locs hw3 hP hS => ?_)
    subst hw3
    refine lv_if_eq (tgt := 33) hx hb dX7_outcome_21 (by decide) (fun c4 => ?_) (fun c4 => ?_)
    · refine lv_iconst (v := 0) hx hb dX7_outcome_33 (by decide) ?_
      exact W.zret (v := 0) hx hb hr (rfl) (fun t ht hW => ⟨⟨_, (upd g 0 0, d, F), rfl, ⟨Or.inl rfl, hI, rfl, rfl, rfl⟩, by rw [ht]; exact hP, hD⟩, hS.F ht⟩) hS.2.2 dX7_outcome_34
    · refine lv_aload_n hx hb dX7_outcome_24 rfl (lv_at hl 0 rfl) ?_
      refine va_get (D := D) (ci := 7) (v := .int ((g 7))) (C := RX7) (T := TX7) (N := 41) hx hb hts hi7 hown hK hP 0 rfl rfl 7 (by decide) (hts (.fieldLink RX7 160 "GuardedCallsModel" "outcomes" "I") (by decide +kernel)) (fun _ h9 => h9) rfl dX7_outcome_25 ?_
      refine lv_bipush (v := 20) hx hb dX7_outcome_28 (by decide) ?_
      refine lv_icmp_lt (tgt := 35) hx hb dX7_outcome_30 (by decide) (fun c5 => ?_) (fun c5 => ?_)
      · refine lv_aload_n hx hb dX7_outcome_35 rfl (lv_at hl 0 rfl) ?_
        refine va_get (D := D) (ci := 7) (v := .ref ((a 2))) (C := RX7) (T := TX7) (N := 41) hx hb hts hi7 hown hK hP 0 rfl rfl 8 (by decide) (hts (.fieldLink RX7 13 "GuardedCallsModel" "ways" "[I") (by decide +kernel)) (fun _ h9 => h9) rfl dX7_outcome_36 ?_
        refine lv_aload_n hx hb dX7_outcome_39 rfl (lv_at hl 0 rfl) ?_
        refine va_get (D := D) (ci := 7) (v := .int ((g 7))) (C := RX7) (T := TX7) (N := 41) hx hb hts hi7 hown hK hP 0 rfl rfl 7 (by decide) (hts (.fieldLink RX7 160 "GuardedCallsModel" "outcomes" "I") (by decide +kernel)) (fun _ h9 => h9) rfl dX7_outcome_40 ?_
        refine lv_iload_n hx hb dX7_outcome_43 rfl (lv_at hl 1 rfl) ?_
        refine va_iast (D := D) hx hb hK hP hD hS 2 0 (f := (F 1)) (n := 20) rfl rfl (vp_in_iff.mpr ⟨hI.2.1.1, by have h9 := c5; rw [Int32.lt_iff_toInt_lt, show (20 : Int32).toInt = 20 from rfl] at h9; omega⟩) dX7_outcome_44 (fun H locs hP hD hS => ?_)
        have hP : va_P D vwCl (mw cI a (upd g 0 0) d (vf_upd F 1 (upd (F 1) ((g 7)).toNatClampNeg p_x))) H := hP
        have hD : va_D A (mw cI a (upd g 0 0) d (vf_upd F 1 (upd (F 1) ((g 7)).toNatClampNeg p_x))) := hD
        refine lv_aload_n hx hb dX7_outcome_45 rfl (lv_at hl 0 rfl) ?_
        refine va_get (D := D) (ci := 7) (v := .ref ((a 3))) (C := RX7) (T := TX7) (N := 41) hx hb hts hi7 hown hK hP 0 rfl rfl 9 (by decide) (hts (.fieldLink RX7 16 "GuardedCallsModel" "latencies" "[I") (by decide +kernel)) (fun _ h9 => h9) rfl dX7_outcome_46 ?_
        refine lv_aload_n hx hb dX7_outcome_49 rfl (lv_at hl 0 rfl) ?_
        refine va_get (D := D) (ci := 7) (v := .int ((g 7))) (C := RX7) (T := TX7) (N := 41) hx hb hts hi7 hown hK hP 0 rfl rfl 7 (by decide) (hts (.fieldLink RX7 160 "GuardedCallsModel" "outcomes" "I") (by decide +kernel)) (fun _ h9 => h9) rfl dX7_outcome_50 ?_
        refine lv_iload_n hx hb dX7_outcome_53 rfl (lv_at hl 2 rfl) ?_
        refine va_iast (D := D) hx hb hK hP hD hS 3 0 (f := (F 2)) (n := 20) rfl rfl (vp_in_iff.mpr ⟨hI.2.1.1, by have h9 := c5; rw [Int32.lt_iff_toInt_lt, show (20 : Int32).toInt = 20 from rfl] at h9; omega⟩) dX7_outcome_54 (fun H locs hP hD hS => ?_)
        have hP : va_P D vwCl (mw cI a (upd g 0 0) d (vf_upd (vf_upd F 1 (upd (F 1) ((g 7)).toNatClampNeg p_x)) 2 (upd (F 2) ((g 7)).toNatClampNeg p_y))) H := hP
        have hD : va_D A (mw cI a (upd g 0 0) d (vf_upd (vf_upd F 1 (upd (F 1) ((g 7)).toNatClampNeg p_x)) 2 (upd (F 2) ((g 7)).toNatClampNeg p_y))) := hD
        refine lv_aload_n hx hb dX7_outcome_55 rfl (lv_at hl 0 rfl) ?_
        refine va_get (D := D) (ci := 7) (v := .ref ((a 4))) (C := RX7) (T := TX7) (N := 41) hx hb hts hi7 hown hK hP 0 rfl rfl 10 (by decide) (hts (.fieldLink RX7 19 "GuardedCallsModel" "values" "[I") (by decide +kernel)) (fun _ h9 => h9) rfl dX7_outcome_56 ?_
        refine lv_aload_n hx hb dX7_outcome_59 rfl (lv_at hl 0 rfl) ?_
        refine va_get (D := D) (ci := 7) (v := .int ((g 7))) (C := RX7) (T := TX7) (N := 41) hx hb hts hi7 hown hK hP 0 rfl rfl 7 (by decide) (hts (.fieldLink RX7 160 "GuardedCallsModel" "outcomes" "I") (by decide +kernel)) (fun _ h9 => h9) rfl dX7_outcome_60 ?_
        refine lv_iload_n hx hb dX7_outcome_63 rfl (lv_at hl 3 rfl) ?_
        refine va_iast (D := D) hx hb hK hP hD hS 4 0 (f := (F 3)) (n := 20) rfl rfl (vp_in_iff.mpr ⟨hI.2.1.1, by have h9 := c5; rw [Int32.lt_iff_toInt_lt, show (20 : Int32).toInt = 20 from rfl] at h9; omega⟩) dX7_outcome_64 (fun H locs hP hD hS => ?_)
        have hP : va_P D vwCl (mw cI a (upd g 0 0) d (vf_upd (vf_upd (vf_upd F 1 (upd (F 1) ((g 7)).toNatClampNeg p_x)) 2 (upd (F 2) ((g 7)).toNatClampNeg p_y)) 3 (upd (F 3) ((g 7)).toNatClampNeg p_z))) H := hP
        have hD : va_D A (mw cI a (upd g 0 0) d (vf_upd (vf_upd (vf_upd F 1 (upd (F 1) ((g 7)).toNatClampNeg p_x)) 2 (upd (F 2) ((g 7)).toNatClampNeg p_y)) 3 (upd (F 3) ((g 7)).toNatClampNeg p_z))) := hD
        refine lv_aload_n hx hb dX7_outcome_65 rfl (lv_at hl 0 rfl) ?_
        refine lv_aload_n hx hb dX7_outcome_66 rfl (lv_at hl 0 rfl) ?_
        refine va_get (D := D) (ci := 7) (v := .int ((g 7))) (C := RX7) (T := TX7) (N := 41) hx hb hts hi7 hown hK hP 0 rfl rfl 7 (by decide) (hts (.fieldLink RX7 160 "GuardedCallsModel" "outcomes" "I") (by decide +kernel)) (fun _ h9 => h9) rfl dX7_outcome_67 ?_
        refine lv_iconst (v := 1) hx hb dX7_outcome_70 (by decide) ?_
        refine lv_iadd hx hb dX7_outcome_71 ?_
        refine lv_topi (fun x6 e6 => ?_)
        refine va_put (D := D) (ci := 7) (v := .int x6) (ty := .int) (C := RX7) (T := TX7) (N := 41) hx hb hts hi7 tyX7 tyX7_ok nmX7 hown hK hP hD hS 0 rfl rfl 7 (by decide) (hts (.fieldLink RX7 160 "GuardedCallsModel" "outcomes" "I") (by decide +kernel)) (fun _ h9 => h9) rfl (by decide +kernel) rfl rfl (Nat.le_of_ble_eq_true rfl) dX7_outcome_72 (fun H locs hP hD hS => ?_)
        have hP : va_P D vwCl (mw cI a (upd (upd g 0 0) 7 x6) d (vf_upd (vf_upd (vf_upd F 1 (upd (F 1) ((g 7)).toNatClampNeg p_x)) 2 (upd (F 2) ((g 7)).toNatClampNeg p_y)) 3 (upd (F 3) ((g 7)).toNatClampNeg p_z))) H := hP
        have hD : va_D A (mw cI a (upd (upd g 0 0) 7 x6) d (vf_upd (vf_upd (vf_upd F 1 (upd (F 1) ((g 7)).toNatClampNeg p_x)) 2 (upd (F 2) ((g 7)).toNatClampNeg p_y)) 3 (upd (F 3) ((g 7)).toNatClampNeg p_z))) := hD
        have hI7 : MI (upd (upd g 0 0) 7 x6) d (vf_upd (vf_upd (vf_upd F 1 (upd (F 1) ((g 7)).toNatClampNeg p_x)) 2 (upd (F 2) ((g 7)).toNatClampNeg p_y)) 3 (upd (F 3) ((g 7)).toNatClampNeg p_z)) := ⟨hI.1, by show 0 ≤ (x6).toInt ∧ (x6).toInt ≤ 20; rw [e6]; exact wait_up hI.2.1 c5, hI.2.2.1, hI.2.2.2.1, hI.2.2.2.2.1, hI.2.2.2.2.2.1, hI.2.2.2.2.2.2.1, hI.2.2.2.2.2.2.2.1, M9_up hI.2.2.2.2.2.2.2.2 (bw_r (x := 0) (y := 2) rfl rfl c2)⟩
        refine lv_iconst (v := 1) hx hb dX7_outcome_75 (by decide) ?_
        exact W.zret (v := 1) hx hb hr (rfl) (fun t ht hW => ⟨⟨_, (upd (upd g 0 0) 7 x6, d, vf_upd (vf_upd (vf_upd F 1 (upd (F 1) ((g 7)).toNatClampNeg p_x)) 2 (upd (F 2) ((g 7)).toNatClampNeg p_y)) 3 (upd (F 3) ((g 7)).toNatClampNeg p_z)), rfl, ⟨Or.inr rfl, hI7, rfl, rfl, rfl⟩, by rw [ht]; exact hP, hD⟩, hS.F ht⟩) hS.2.2 dX7_outcome_76
      · refine lv_iconst (v := 0) hx hb dX7_outcome_33 (by decide) ?_
        exact W.zret (v := 0) hx hb hr (rfl) (fun t ht hW => ⟨⟨_, (upd g 0 0, d, F), rfl, ⟨Or.inl rfl, hI, rfl, rfl, rfl⟩, by rw [ht]; exact hP, hD⟩, hS.F ht⟩) hS.2.2 dX7_outcome_34
set_option maxHeartbeats 4000000 in
set_option maxRecDepth 100000 in
theorem s_X7_pass (l : Launch) (D : va_G) (cI : ClassId) (a : Nat → Nat) (sz : Nat) (g : Nat → Int32) (d : Nat → UInt64) (F : Nat → Nat → Int32) (p_k : Int32) (hI : MI g d F) : Met l yX7_pass wsX7_pass ({ frames := 1, cells := 0, slots := 0, locals := 22 }) (gP (KM D cI) D (mw cI a g d F) sz [.ref (a 0), .int p_k]) (va_Qi (fun (r : Int32) (u : SS) => (r = sp1 p_k 0 100) ∧ MI u.1 u.2.1 u.2.2 ∧ u.1 3 = g 3 ∧ u.1 26 = g 26 ∧ u.2.2 0 = F 0) (gB D (wfM cI a) (va_A (mw cI a g d F) sz)) (va_A (mw cI a g d F) sz)) 0 0 (va_A (mw cI a g d F) sz) := by
  refine Met.ofW (cc := cX7_pass) (maxL := 2) (ret := (some .boolean)) (by decide) rfl ?_
  intro p e s m args below meth c s₁ B hml hv
  obtain ⟨rfl, hsz, hP, hD0, hKK⟩ := hv
  have hx := B.exec
  have hb := B.bytes
  have hr := B.returns
  have hts := atoms_spec (ws := wsX7_pass) B.pre
  have hown : s.vm.findClass RX7 = some m.cls := findClass_of_methodNamed B.named
  have hlocks := B.notSynchronized
  subst hsz
  have hK := hKK.1
  have hok := KM_ok D cI
  have hD := hD0.self (sz := s.heap.size)
  generalize hAe : va_A (mw cI a g d F) s.heap.size = A at hD ⊢
  have hi7 : ∀ w ∈ wsX70, w ∈ wsX7_pass := fun w h => List.mem_cons_of_mem _ (List.mem_append_right _ h)
  have hA : ∀ q : Nat, s.heap.size ≤ q → A q := fun q h => by rw [← hAe]; exact Or.inr h
  have hS : va_S A s.heap s.heap [] := va_S.rf
  have hP : va_P D vwCl (mw cI a g d F) s.heap := hP
  have hl := lv_entry ([.ref ((a 0)), .int p_k]) (n := 2) (Nat.le_of_ble_eq_true rfl)
  rw [lg_entry_eq]
  generalize (lg_sl ([.ref ((a 0)), .int p_k]) ++ List.replicate (2 - (lg_sl ([.ref ((a 0)), .int p_k])).length) Slot.unset).toArray = ls at hl ⊢
  have hl : lv_has ls 2 [(0, .ref ((a 0))), (1, .int p_k)] := hl
  refine lv_aload_n hx hb dX7_pass_0 rfl (lv_at hl 0 rfl) ?_
  refine lv_iconst (v := 0) hx hb dX7_pass_1 (by decide) ?_
  refine va_put (D := D) (ci := 7) (v := .int 0) (ty := .int) (C := RX7) (T := TX7) (N := 41) hx hb hts hi7 tyX7 tyX7_ok nmX7 hown hK hP hD hS 0 rfl rfl 0 (by decide) (hts (.fieldLink RX7 96 "GuardedCallsModel" "thrown" "I") (by decide +kernel)) (fun _ h9 => h9) rfl (by decide +kernel) rfl rfl (Nat.le_of_ble_eq_true rfl) dX7_pass_2 (fun H locs hP hD hS => ?_)
  have hP : va_P D vwCl (mw cI a (upd g 0 0) d F) H := hP
  have hD : va_D A (mw cI a (upd g 0 0) d F) := hD
  refine lv_iload_n hx hb dX7_pass_5 rfl (lv_at hl 1 rfl) ?_
  refine lv_iconst (v := 0) hx hb dX7_pass_6 (by decide) ?_
  refine lv_bipush (v := 100) hx hb dX7_pass_7 (by decide) ?_
  refine gc_si (As := [.int p_k, .int 0, .int 100]) (rest := []) ⟨hx, hb, hml, hown, hts⟩ hP hD hS hA (c_X7_in l _ p_k 0 100) (va_cwS 3 hts gX7_pass_X7_in rfl rfl rfl (by decide +kernel) ⟨Nat.le_of_ble_eq_true rfl, Nat.le_of_ble_eq_true rfl⟩) rfl hl.1 rfl (Nat.le_of_ble_eq_true rfl) dX7_pass_9 ⟨Nat.le_of_ble_eq_true rfl, Nat.le_of_ble_eq_true rfl⟩ (fun r1 H locs hw1 hP hS => ?_)
  subst hw1
  refine lv_if_ne (tgt := 17) hx hb dX7_pass_12 (by decide) (fun c2 => ?_) (fun c2 => ?_)
  · refine lv_aload_n hx hb dX7_pass_17 rfl (lv_at hl 0 rfl) ?_
    refine lv_aload_n hx hb dX7_pass_18 rfl (lv_at hl 0 rfl) ?_
    refine va_get (D := D) (ci := 7) (v := .int ((g 1))) (C := RX7) (T := TX7) (N := 41) hx hb hts hi7 hown hK hP 0 rfl rfl 1 (by decide) (hts (.fieldLink RX7 102 "GuardedCallsModel" "clock" "I") (by decide +kernel)) (fun _ h9 => h9) rfl dX7_pass_19 ?_
    refine lv_iload_n hx hb dX7_pass_22 rfl (lv_at hl 1 rfl) ?_
    refine lv_iadd hx hb dX7_pass_23 ?_
    refine lv_topi (fun x3 e3 => ?_)
    refine va_put (D := D) (ci := 7) (v := .int x3) (ty := .int) (C := RX7) (T := TX7) (N := 41) hx hb hts hi7 tyX7 tyX7_ok nmX7 hown hK hP hD hS 0 rfl rfl 1 (by decide) (hts (.fieldLink RX7 102 "GuardedCallsModel" "clock" "I") (by decide +kernel)) (fun _ h9 => h9) rfl (by decide +kernel) rfl rfl (Nat.le_of_ble_eq_true rfl) dX7_pass_24 (fun H locs hP hD hS => ?_)
    have hP : va_P D vwCl (mw cI a (upd (upd g 0 0) 1 x3) d F) H := hP
    have hD : va_D A (mw cI a (upd (upd g 0 0) 1 x3) d F) := hD
    refine lv_iconst (v := 1) hx hb dX7_pass_27 (by decide) ?_
    exact W.zret (v := 1) hx hb hr (rfl) (fun t ht hW => ⟨⟨_, (upd (upd g 0 0) 1 x3, d, F), rfl, ⟨by simp [sp1, c2], hI, rfl, rfl, rfl⟩, by rw [ht]; exact hP, hD⟩, hS.F ht⟩) hS.2.2 dX7_pass_28
  · refine lv_iconst (v := 0) hx hb dX7_pass_15 (by decide) ?_
    exact W.zret (v := 0) hx hb hr (rfl) (fun t ht hW => ⟨⟨_, (upd g 0 0, d, F), rfl, ⟨by simp [sp1, c2], hI, rfl, rfl, rfl⟩, by rw [ht]; exact hP, hD⟩, hS.F ht⟩) hS.2.2 dX7_pass_16
set_option maxHeartbeats 4000000 in
set_option maxRecDepth 100000 in
theorem s_X7_failing (l : Launch) (D : va_G) (cI : ClassId) (a : Nat → Nat) (sz : Nat) (g : Nat → Int32) (d : Nat → UInt64) (F : Nat → Nat → Int32) (hI : MI g d F) : Met l yX7_failing wsX7_failing ({ frames := 2, cells := 0, slots := 0, locals := 44 }) (gP (KM D cI) D (mw cI a g d F) sz [.ref (a 0)]) (va_Qd (fun (r : UInt64) (u : SS) => (True) ∧ MI u.1 u.2.1 u.2.2 ∧ u.1 3 = g 3 ∧ u.1 26 = g 26 ∧ u.2.2 0 = F 0) (gB D (wfM cI a) (va_A (mw cI a g d F) sz)) (va_A (mw cI a g d F) sz)) 0 0 (va_A (mw cI a g d F) sz) := by
  refine Met.ofW (cc := cX7_failing) (maxL := 1) (ret := (some .double)) (by decide) rfl ?_
  intro p e s m args below meth c s₁ B hml hv
  obtain ⟨rfl, hsz, hP, hD0, hKK⟩ := hv
  have hx := B.exec
  have hb := B.bytes
  have hr := B.returns
  have hts := atoms_spec (ws := wsX7_failing) B.pre
  have hown : s.vm.findClass RX7 = some m.cls := findClass_of_methodNamed B.named
  have hlocks := B.notSynchronized
  subst hsz
  have hK := hKK.1
  have hok := KM_ok D cI
  have hD := hD0.self (sz := s.heap.size)
  generalize hAe : va_A (mw cI a g d F) s.heap.size = A at hD ⊢
  have hi7 : ∀ w ∈ wsX70, w ∈ wsX7_failing := fun w h => List.mem_cons_of_mem _ (List.mem_append_right _ h)
  have hA : ∀ q : Nat, s.heap.size ≤ q → A q := fun q h => by rw [← hAe]; exact Or.inr h
  have hS : va_S A s.heap s.heap [] := va_S.rf
  have hP : va_P D vwCl (mw cI a g d F) s.heap := hP
  have hl := lv_entry ([.ref ((a 0))]) (n := 1) (Nat.le_of_ble_eq_true rfl)
  rw [lg_entry_eq]
  generalize (lg_sl ([.ref ((a 0))]) ++ List.replicate (1 - (lg_sl ([.ref ((a 0))])).length) Slot.unset).toArray = ls at hl ⊢
  have hl : lv_has ls 1 [(0, .ref ((a 0)))] := hl
  refine lv_aload_n hx hb dX7_failing_0 rfl (lv_at hl 0 rfl) ?_
  refine lv_iconst (v := 0) hx hb dX7_failing_1 (by decide) ?_
  refine va_put (D := D) (ci := 7) (v := .int 0) (ty := .int) (C := RX7) (T := TX7) (N := 41) hx hb hts hi7 tyX7 tyX7_ok nmX7 hown hK hP hD hS 0 rfl rfl 0 (by decide) (hts (.fieldLink RX7 96 "GuardedCallsModel" "thrown" "I") (by decide +kernel)) (fun _ h9 => h9) rfl (by decide +kernel) rfl rfl (Nat.le_of_ble_eq_true rfl) dX7_failing_2 (fun H locs hP hD hS => ?_)
  have hP : va_P D vwCl (mw cI a (upd g 0 0) d F) H := hP
  have hD : va_D A (mw cI a (upd g 0 0) d F) := hD
  refine lv_aload_n hx hb dX7_failing_5 rfl (lv_at hl 0 rfl) ?_
  refine lv_iconst (v := 1) hx hb dX7_failing_6 (by decide) ?_
  refine gc_vd (As := [.int 1]) (rest := []) (w0 := mw cI a (upd g 0 0) d F) (wc := mw cI a (upd g 0 0) d F) (wr := []) (wf := wfM cI a) ⟨hx, hb, hml, hown, hts⟩ hKK hok hP hD hS hA [0, 1, 2, 3, 4, 5, 6] [] rfl rfl (by decide) (s_X7_rate l D cI a _ (upd g 0 0) d F 1 (cnt8 hI)) (cwV 1 hts gX7_failing_X7_rate rfl rfl rfl (by decide +kernel) ⟨Nat.le_of_ble_eq_true rfl, Nat.le_of_ble_eq_true rfl⟩) (va_recv hK hP (ci := 7) (q0 := 0) rfl rfl) rfl hl.1 rfl (Nat.le_of_ble_eq_true rfl) dX7_failing_7 ⟨Nat.le_of_ble_eq_true rfl, Nat.le_of_ble_eq_true rfl⟩ (fun r1 u1 H locs hw1 hP hD hS => ?_)
  subst hw1
  have hP : va_P D vwCl (mw cI a (upd g 0 0) d F) H := hP
  have hD : va_D A (mw cI a (upd g 0 0) d F) := hD
  exact W.dret (v := r1) hx hb hr (fun t ht hW => ⟨⟨_, (upd g 0 0, d, F), rfl, ⟨trivial, hI, rfl, rfl, rfl⟩, by rw [ht]; exact hP, hD⟩, hS.F ht⟩) hS.2.2 dX7_failing_10
set_option maxHeartbeats 4000000 in
set_option maxRecDepth 100000 in
theorem s_X7_sluggish (l : Launch) (D : va_G) (cI : ClassId) (a : Nat → Nat) (sz : Nat) (g : Nat → Int32) (d : Nat → UInt64) (F : Nat → Nat → Int32) (hI : MI g d F) : Met l yX7_sluggish wsX7_sluggish ({ frames := 2, cells := 0, slots := 0, locals := 44 }) (gP (KM D cI) D (mw cI a g d F) sz [.ref (a 0)]) (va_Qd (fun (r : UInt64) (u : SS) => (True) ∧ MI u.1 u.2.1 u.2.2 ∧ u.1 3 = g 3 ∧ u.1 26 = g 26 ∧ u.2.2 0 = F 0) (gB D (wfM cI a) (va_A (mw cI a g d F) sz)) (va_A (mw cI a g d F) sz)) 0 0 (va_A (mw cI a g d F) sz) := by
  refine Met.ofW (cc := cX7_sluggish) (maxL := 1) (ret := (some .double)) (by decide) rfl ?_
  intro p e s m args below meth c s₁ B hml hv
  obtain ⟨rfl, hsz, hP, hD0, hKK⟩ := hv
  have hx := B.exec
  have hb := B.bytes
  have hr := B.returns
  have hts := atoms_spec (ws := wsX7_sluggish) B.pre
  have hown : s.vm.findClass RX7 = some m.cls := findClass_of_methodNamed B.named
  have hlocks := B.notSynchronized
  subst hsz
  have hK := hKK.1
  have hok := KM_ok D cI
  have hD := hD0.self (sz := s.heap.size)
  generalize hAe : va_A (mw cI a g d F) s.heap.size = A at hD ⊢
  have hi7 : ∀ w ∈ wsX70, w ∈ wsX7_sluggish := fun w h => List.mem_cons_of_mem _ (List.mem_append_right _ h)
  have hA : ∀ q : Nat, s.heap.size ≤ q → A q := fun q h => by rw [← hAe]; exact Or.inr h
  have hS : va_S A s.heap s.heap [] := va_S.rf
  have hP : va_P D vwCl (mw cI a g d F) s.heap := hP
  have hl := lv_entry ([.ref ((a 0))]) (n := 1) (Nat.le_of_ble_eq_true rfl)
  rw [lg_entry_eq]
  generalize (lg_sl ([.ref ((a 0))]) ++ List.replicate (1 - (lg_sl ([.ref ((a 0))])).length) Slot.unset).toArray = ls at hl ⊢
  have hl : lv_has ls 1 [(0, .ref ((a 0)))] := hl
  refine lv_aload_n hx hb dX7_sluggish_0 rfl (lv_at hl 0 rfl) ?_
  refine lv_iconst (v := 0) hx hb dX7_sluggish_1 (by decide) ?_
  refine va_put (D := D) (ci := 7) (v := .int 0) (ty := .int) (C := RX7) (T := TX7) (N := 41) hx hb hts hi7 tyX7 tyX7_ok nmX7 hown hK hP hD hS 0 rfl rfl 0 (by decide) (hts (.fieldLink RX7 96 "GuardedCallsModel" "thrown" "I") (by decide +kernel)) (fun _ h9 => h9) rfl (by decide +kernel) rfl rfl (Nat.le_of_ble_eq_true rfl) dX7_sluggish_2 (fun H locs hP hD hS => ?_)
  have hP : va_P D vwCl (mw cI a (upd g 0 0) d F) H := hP
  have hD : va_D A (mw cI a (upd g 0 0) d F) := hD
  refine lv_aload_n hx hb dX7_sluggish_5 rfl (lv_at hl 0 rfl) ?_
  refine lv_iconst (v := 2) hx hb dX7_sluggish_6 (by decide) ?_
  refine gc_vd (As := [.int 2]) (rest := []) (w0 := mw cI a (upd g 0 0) d F) (wc := mw cI a (upd g 0 0) d F) (wr := []) (wf := wfM cI a) ⟨hx, hb, hml, hown, hts⟩ hKK hok hP hD hS hA [0, 1, 2, 3, 4, 5, 6] [] rfl rfl (by decide) (s_X7_rate l D cI a _ (upd g 0 0) d F 2 (cnt8 hI)) (cwV 1 hts gX7_sluggish_X7_rate rfl rfl rfl (by decide +kernel) ⟨Nat.le_of_ble_eq_true rfl, Nat.le_of_ble_eq_true rfl⟩) (va_recv hK hP (ci := 7) (q0 := 0) rfl rfl) rfl hl.1 rfl (Nat.le_of_ble_eq_true rfl) dX7_sluggish_7 ⟨Nat.le_of_ble_eq_true rfl, Nat.le_of_ble_eq_true rfl⟩ (fun r1 u1 H locs hw1 hP hD hS => ?_)
  subst hw1
  have hP : va_P D vwCl (mw cI a (upd g 0 0) d F) H := hP
  have hD : va_D A (mw cI a (upd g 0 0) d F) := hD
  exact W.dret (v := r1) hx hb hr (fun t ht hW => ⟨⟨_, (upd g 0 0, d, F), rfl, ⟨trivial, hI, rfl, rfl, rfl⟩, by rw [ht]; exact hP, hD⟩, hS.F ht⟩) hS.2.2 dX7_sluggish_10
set_option maxHeartbeats 4000000 in
set_option maxRecDepth 100000 in
theorem s_X7_tell (l : Launch) (D : va_G) (cI : ClassId) (a : Nat → Nat) (sz : Nat) (g : Nat → Int32) (d : Nat → UInt64) (F : Nat → Nat → Int32) (p_k : Int32) (hI : MI g d F) : Met l yX7_tell wsX7_tell ({ frames := 0, cells := 0, slots := 0, locals := 0 }) (gP (KM D cI) D (mw cI a g d F) sz [.ref (a 0), .int p_k]) (va_Qi (fun (r : Int32) (u : SS) => (True) ∧ MI u.1 u.2.1 u.2.2 ∧ u.1 3 = g 3 ∧ u.1 26 = g 26 ∧ u.2.2 0 = F 0) (gB D (wfM cI a) (va_A (mw cI a g d F) sz)) (va_A (mw cI a g d F) sz)) 0 0 (va_A (mw cI a g d F) sz) := by
  refine Met.ofW (cc := cX7_tell) (maxL := 2) (ret := (some .int)) (by decide) rfl ?_
  intro p e s m args below meth c s₁ B hml hv
  obtain ⟨rfl, hsz, hP, hD0, hKK⟩ := hv
  have hx := B.exec
  have hb := B.bytes
  have hr := B.returns
  have hts := atoms_spec (ws := wsX7_tell) B.pre
  have hown : s.vm.findClass RX7 = some m.cls := findClass_of_methodNamed B.named
  have hlocks := B.notSynchronized
  subst hsz
  have hK := hKK.1
  have hok := KM_ok D cI
  have hD := hD0.self (sz := s.heap.size)
  generalize hAe : va_A (mw cI a g d F) s.heap.size = A at hD ⊢
  have hi7 : ∀ w ∈ wsX70, w ∈ wsX7_tell := fun w h => List.mem_cons_of_mem _ (List.mem_append_right _ h)
  have hA : ∀ q : Nat, s.heap.size ≤ q → A q := fun q h => by rw [← hAe]; exact Or.inr h
  have hS : va_S A s.heap s.heap [] := va_S.rf
  have hP : va_P D vwCl (mw cI a g d F) s.heap := hP
  have hl := lv_entry ([.ref ((a 0)), .int p_k]) (n := 2) (Nat.le_of_ble_eq_true rfl)
  rw [lg_entry_eq]
  generalize (lg_sl ([.ref ((a 0)), .int p_k]) ++ List.replicate (2 - (lg_sl ([.ref ((a 0)), .int p_k])).length) Slot.unset).toArray = ls at hl ⊢
  have hl : lv_has ls 2 [(0, .ref ((a 0))), (1, .int p_k)] := hl
  refine lv_aload_n hx hb dX7_tell_0 rfl (lv_at hl 0 rfl) ?_
  refine lv_iconst (v := 0) hx hb dX7_tell_1 (by decide) ?_
  refine va_put (D := D) (ci := 7) (v := .int 0) (ty := .int) (C := RX7) (T := TX7) (N := 41) hx hb hts hi7 tyX7 tyX7_ok nmX7 hown hK hP hD hS 0 rfl rfl 0 (by decide) (hts (.fieldLink RX7 96 "GuardedCallsModel" "thrown" "I") (by decide +kernel)) (fun _ h9 => h9) rfl (by decide +kernel) rfl rfl (Nat.le_of_ble_eq_true rfl) dX7_tell_2 (fun H locs hP hD hS => ?_)
  have hP : va_P D vwCl (mw cI a (upd g 0 0) d F) H := hP
  have hD : va_D A (mw cI a (upd g 0 0) d F) := hD
  refine lv_iload_n hx hb dX7_tell_5 rfl (lv_at hl 1 rfl) ?_
  refine lv_iconst (v := 4) hx hb dX7_tell_6 (by decide) ?_
  refine lv_icmp_ge (tgt := 59) hx hb dX7_tell_7 (by decide) (fun c1 => ?_) (fun c1 => ?_)
  · refine lv_iload_n hx hb dX7_tell_59 rfl (lv_at hl 1 rfl) ?_
    refine lv_iconst (v := 4) hx hb dX7_tell_60 (by decide) ?_
    refine lv_icmp_ne (tgt := 71) hx hb dX7_tell_61 (by decide) (fun c2 => ?_) (fun c2 => ?_)
    · refine lv_iload_n hx hb dX7_tell_71 rfl (lv_at hl 1 rfl) ?_
      refine lv_iconst (v := 5) hx hb dX7_tell_72 (by decide) ?_
      refine lv_icmp_ne (tgt := 83) hx hb dX7_tell_73 (by decide) (fun c3 => ?_) (fun c3 => ?_)
      · refine lv_iload_n hx hb dX7_tell_83 rfl (lv_at hl 1 rfl) ?_
        refine lv_bipush (v := 6) hx hb dX7_tell_84 (by decide) ?_
        refine lv_icmp_ne (tgt := 96) hx hb dX7_tell_86 (by decide) (fun c4 => ?_) (fun c4 => ?_)
        · refine lv_iload_n hx hb dX7_tell_96 rfl (lv_at hl 1 rfl) ?_
          refine lv_bipush (v := 7) hx hb dX7_tell_97 (by decide) ?_
          refine lv_icmp_ne (tgt := 109) hx hb dX7_tell_99 (by decide) (fun c5 => ?_) (fun c5 => ?_)
          · refine lv_iconst (v := (-1)) hx hb dX7_tell_109 (by decide) ?_
            exact W.iret (v := ((-1))) hx hb hr (fun t ht hW => ⟨⟨_, (upd g 0 0, d, F), rfl, ⟨trivial, hI, rfl, rfl, rfl⟩, by rw [ht]; exact hP, hD⟩, hS.F ht⟩) hS.2.2 dX7_tell_110
          · refine lv_aload_n hx hb dX7_tell_102 rfl (lv_at hl 0 rfl) ?_
            refine va_get (D := D) (ci := 7) (v := .int ((g 1))) (C := RX7) (T := TX7) (N := 41) hx hb hts hi7 hown hK hP 0 rfl rfl 1 (by decide) (hts (.fieldLink RX7 102 "GuardedCallsModel" "clock" "I") (by decide +kernel)) (fun _ h9 => h9) rfl dX7_tell_103 ?_
            refine lv_goto (tgt := 110) hx hb dX7_tell_106 (by decide) ?_
            exact W.iret (v := ((g 1))) hx hb hr (fun t ht hW => ⟨⟨_, (upd g 0 0, d, F), rfl, ⟨trivial, hI, rfl, rfl, rfl⟩, by rw [ht]; exact hP, hD⟩, hS.F ht⟩) hS.2.2 dX7_tell_110
        · refine lv_aload_n hx hb dX7_tell_89 rfl (lv_at hl 0 rfl) ?_
          refine va_get (D := D) (ci := 7) (v := .int ((g 5))) (C := RX7) (T := TX7) (N := 41) hx hb hts hi7 hown hK hP 0 rfl rfl 5 (by decide) (hts (.fieldLink RX7 154 "GuardedCallsModel" "calls" "I") (by decide +kernel)) (fun _ h9 => h9) rfl dX7_tell_90 ?_
          refine lv_goto (tgt := 110) hx hb dX7_tell_93 (by decide) ?_
          exact W.iret (v := ((g 5))) hx hb hr (fun t ht hW => ⟨⟨_, (upd g 0 0, d, F), rfl, ⟨trivial, hI, rfl, rfl, rfl⟩, by rw [ht]; exact hP, hD⟩, hS.F ht⟩) hS.2.2 dX7_tell_110
      · refine lv_aload_n hx hb dX7_tell_76 rfl (lv_at hl 0 rfl) ?_
        refine va_get (D := D) (ci := 7) (v := .int ((g 7))) (C := RX7) (T := TX7) (N := 41) hx hb hts hi7 hown hK hP 0 rfl rfl 7 (by decide) (hts (.fieldLink RX7 160 "GuardedCallsModel" "outcomes" "I") (by decide +kernel)) (fun _ h9 => h9) rfl dX7_tell_77 ?_
        refine lv_goto (tgt := 110) hx hb dX7_tell_80 (by decide) ?_
        exact W.iret (v := ((g 7))) hx hb hr (fun t ht hW => ⟨⟨_, (upd g 0 0, d, F), rfl, ⟨trivial, hI, rfl, rfl, rfl⟩, by rw [ht]; exact hP, hD⟩, hS.F ht⟩) hS.2.2 dX7_tell_110
    · refine lv_aload_n hx hb dX7_tell_64 rfl (lv_at hl 0 rfl) ?_
      refine va_get (D := D) (ci := 7) (v := .int ((g 31))) (C := RX7) (T := TX7) (N := 41) hx hb hts hi7 hown hK hP 0 rfl rfl 31 (by decide) (hts (.fieldLink RX7 64 "GuardedCallsModel" "left" "I") (by decide +kernel)) (fun _ h9 => h9) rfl dX7_tell_65 ?_
      refine lv_goto (tgt := 110) hx hb dX7_tell_68 (by decide) ?_
      exact W.iret (v := ((g 31))) hx hb hr (fun t ht hW => ⟨⟨_, (upd g 0 0, d, F), rfl, ⟨trivial, hI, rfl, rfl, rfl⟩, by rw [ht]; exact hP, hD⟩, hS.F ht⟩) hS.2.2 dX7_tell_110
  · refine lv_iload_n hx hb dX7_tell_10 rfl (lv_at hl 1 rfl) ?_
    refine lv_if_ne (tgt := 21) hx hb dX7_tell_11 (by decide) (fun c6 => ?_) (fun c6 => ?_)
    · refine lv_iload_n hx hb dX7_tell_21 rfl (lv_at hl 1 rfl) ?_
      refine lv_iconst (v := 1) hx hb dX7_tell_22 (by decide) ?_
      refine lv_icmp_ne (tgt := 33) hx hb dX7_tell_23 (by decide) (fun c7 => ?_) (fun c7 => ?_)
      · refine lv_iload_n hx hb dX7_tell_33 rfl (lv_at hl 1 rfl) ?_
        refine lv_iconst (v := 2) hx hb dX7_tell_34 (by decide) ?_
        refine lv_icmp_ne (tgt := 45) hx hb dX7_tell_35 (by decide) (fun c8 => ?_) (fun c8 => ?_)
        · refine lv_iload_n hx hb dX7_tell_45 rfl (lv_at hl 1 rfl) ?_
          refine lv_iconst (v := 3) hx hb dX7_tell_46 (by decide) ?_
          refine lv_icmp_ne (tgt := 57) hx hb dX7_tell_47 (by decide) (fun c9 => ?_) (fun c9 => ?_)
          · refine lv_iconst (v := (-1)) hx hb dX7_tell_57 (by decide) ?_
            exact W.iret (v := ((-1))) hx hb hr (fun t ht hW => ⟨⟨_, (upd g 0 0, d, F), rfl, ⟨trivial, hI, rfl, rfl, rfl⟩, by rw [ht]; exact hP, hD⟩, hS.F ht⟩) hS.2.2 dX7_tell_58
          · refine lv_aload_n hx hb dX7_tell_50 rfl (lv_at hl 0 rfl) ?_
            refine va_get (D := D) (ci := 7) (v := .int ((g 26))) (C := RX7) (T := TX7) (N := 41) hx hb hts hi7 hown hK hP 0 rfl rfl 26 (by decide) (hts (.fieldLink RX7 167 "GuardedCallsModel" "used" "I") (by decide +kernel)) (fun _ h9 => h9) rfl dX7_tell_51 ?_
            refine lv_goto (tgt := 58) hx hb dX7_tell_54 (by decide) ?_
            exact W.iret (v := ((g 26))) hx hb hr (fun t ht hW => ⟨⟨_, (upd g 0 0, d, F), rfl, ⟨trivial, hI, rfl, rfl, rfl⟩, by rw [ht]; exact hP, hD⟩, hS.F ht⟩) hS.2.2 dX7_tell_58
        · refine lv_aload_n hx hb dX7_tell_38 rfl (lv_at hl 0 rfl) ?_
          refine va_get (D := D) (ci := 7) (v := .int ((g 20))) (C := RX7) (T := TX7) (N := 41) hx hb hts hi7 hown hK hP 0 rfl rfl 20 (by decide) (hts (.fieldLink RX7 115 "GuardedCallsModel" "trials" "I") (by decide +kernel)) (fun _ h9 => h9) rfl dX7_tell_39 ?_
          refine lv_goto (tgt := 58) hx hb dX7_tell_42 (by decide) ?_
          exact W.iret (v := ((g 20))) hx hb hr (fun t ht hW => ⟨⟨_, (upd g 0 0, d, F), rfl, ⟨trivial, hI, rfl, rfl, rfl⟩, by rw [ht]; exact hP, hD⟩, hS.F ht⟩) hS.2.2 dX7_tell_58
      · refine lv_aload_n hx hb dX7_tell_26 rfl (lv_at hl 0 rfl) ?_
        refine va_get (D := D) (ci := 7) (v := .int ((g 21))) (C := RX7) (T := TX7) (N := 41) hx hb hts hi7 hown hK hP 0 rfl rfl 21 (by decide) (hts (.fieldLink RX7 112 "GuardedCallsModel" "count" "I") (by decide +kernel)) (fun _ h9 => h9) rfl dX7_tell_27 ?_
        refine lv_goto (tgt := 58) hx hb dX7_tell_30 (by decide) ?_
        exact W.iret (v := ((g 21))) hx hb hr (fun t ht hW => ⟨⟨_, (upd g 0 0, d, F), rfl, ⟨trivial, hI, rfl, rfl, rfl⟩, by rw [ht]; exact hP, hD⟩, hS.F ht⟩) hS.2.2 dX7_tell_58
    · refine lv_aload_n hx hb dX7_tell_14 rfl (lv_at hl 0 rfl) ?_
      refine va_get (D := D) (ci := 7) (v := .int ((g 18))) (C := RX7) (T := TX7) (N := 41) hx hb hts hi7 hown hK hP 0 rfl rfl 18 (by decide) (hts (.fieldLink RX7 109 "GuardedCallsModel" "state" "I") (by decide +kernel)) (fun _ h9 => h9) rfl dX7_tell_15 ?_
      refine lv_goto (tgt := 58) hx hb dX7_tell_18 (by decide) ?_
      exact W.iret (v := ((g 18))) hx hb hr (fun t ht hW => ⟨⟨_, (upd g 0 0, d, F), rfl, ⟨trivial, hI, rfl, rfl, rfl⟩, by rw [ht]; exact hP, hD⟩, hS.F ht⟩) hS.2.2 dX7_tell_58
set_option maxHeartbeats 4000000 in
set_option maxRecDepth 100000 in
theorem s_X7_event (l : Launch) (D : va_G) (cI : ClassId) (a : Nat → Nat) (sz : Nat) (g : Nat → Int32) (d : Nat → UInt64) (F : Nat → Nat → Int32) (p_k : Int32) (hI : MI g d F) : Met l yX7_event wsX7_event ({ frames := 1, cells := 0, slots := 0, locals := 22 }) (gP (KM D cI) D (mw cI a g d F) sz [.ref (a 0), .int p_k]) (va_Qi (fun (r : Int32) (u : SS) => (True) ∧ MI u.1 u.2.1 u.2.2 ∧ u.1 3 = g 3 ∧ u.1 26 = g 26 ∧ u.2.2 0 = F 0) (gB D (wfM cI a) (va_A (mw cI a g d F) sz)) (va_A (mw cI a g d F) sz)) 0 0 (va_A (mw cI a g d F) sz) := by
  refine Met.ofW (cc := cX7_event) (maxL := 2) (ret := (some .int)) (by decide) rfl ?_
  intro p e s m args below meth c s₁ B hml hv
  obtain ⟨rfl, hsz, hP, hD0, hKK⟩ := hv
  have hx := B.exec
  have hb := B.bytes
  have hr := B.returns
  have hts := atoms_spec (ws := wsX7_event) B.pre
  have hown : s.vm.findClass RX7 = some m.cls := findClass_of_methodNamed B.named
  have hlocks := B.notSynchronized
  subst hsz
  have hK := hKK.1
  have hok := KM_ok D cI
  have hD := hD0.self (sz := s.heap.size)
  generalize hAe : va_A (mw cI a g d F) s.heap.size = A at hD ⊢
  have hi7 : ∀ w ∈ wsX70, w ∈ wsX7_event := fun w h => List.mem_cons_of_mem _ (List.mem_append_right _ h)
  have hA : ∀ q : Nat, s.heap.size ≤ q → A q := fun q h => by rw [← hAe]; exact Or.inr h
  have hS : va_S A s.heap s.heap [] := va_S.rf
  have hP : va_P D vwCl (mw cI a g d F) s.heap := hP
  have hl := lv_entry ([.ref ((a 0)), .int p_k]) (n := 2) (Nat.le_of_ble_eq_true rfl)
  rw [lg_entry_eq]
  generalize (lg_sl ([.ref ((a 0)), .int p_k]) ++ List.replicate (2 - (lg_sl ([.ref ((a 0)), .int p_k])).length) Slot.unset).toArray = ls at hl ⊢
  have hl : lv_has ls 2 [(0, .ref ((a 0))), (1, .int p_k)] := hl
  refine lv_aload_n hx hb dX7_event_0 rfl (lv_at hl 0 rfl) ?_
  refine lv_iconst (v := 0) hx hb dX7_event_1 (by decide) ?_
  refine va_put (D := D) (ci := 7) (v := .int 0) (ty := .int) (C := RX7) (T := TX7) (N := 41) hx hb hts hi7 tyX7 tyX7_ok nmX7 hown hK hP hD hS 0 rfl rfl 0 (by decide) (hts (.fieldLink RX7 96 "GuardedCallsModel" "thrown" "I") (by decide +kernel)) (fun _ h9 => h9) rfl (by decide +kernel) rfl rfl (Nat.le_of_ble_eq_true rfl) dX7_event_2 (fun H locs hP hD hS => ?_)
  have hP : va_P D vwCl (mw cI a (upd g 0 0) d F) H := hP
  have hD : va_D A (mw cI a (upd g 0 0) d F) := hD
  refine lv_iload_n hx hb dX7_event_5 rfl (lv_at hl 1 rfl) ?_
  refine lv_iconst (v := 0) hx hb dX7_event_6 (by decide) ?_
  refine lv_aload_n hx hb dX7_event_7 rfl (lv_at hl 0 rfl) ?_
  refine va_get (D := D) (ci := 7) (v := .int ((g 39))) (C := RX7) (T := TX7) (N := 41) hx hb hts hi7 hown hK hP 0 rfl rfl 39 (by decide) (hts (.fieldLink RX7 99 "GuardedCallsModel" "many" "I") (by decide +kernel)) (fun _ h9 => h9) rfl dX7_event_8 ?_
  refine lv_iconst (v := 1) hx hb dX7_event_11 (by decide) ?_
  refine lv_isub hx hb dX7_event_12 ?_
  refine lv_topi (fun x1 e1 => ?_)
  refine gc_si (As := [.int p_k, .int 0, .int x1]) (rest := []) ⟨hx, hb, hml, hown, hts⟩ hP hD hS hA (c_X7_in l _ p_k 0 x1) (va_cwS 3 hts gX7_event_X7_in rfl rfl rfl (by decide +kernel) ⟨Nat.le_of_ble_eq_true rfl, Nat.le_of_ble_eq_true rfl⟩) rfl hl.1 rfl (Nat.le_of_ble_eq_true rfl) dX7_event_13 ⟨Nat.le_of_ble_eq_true rfl, Nat.le_of_ble_eq_true rfl⟩ (fun r2 H locs hw2 hP hS => ?_)
  subst hw2
  refine lv_if_eq (tgt := 28) hx hb dX7_event_16 (by decide) (fun c3 => ?_) (fun c3 => ?_)
  · refine lv_iconst (v := (-1)) hx hb dX7_event_28 (by decide) ?_
    exact W.iret (v := ((-1))) hx hb hr (fun t ht hW => ⟨⟨_, (upd g 0 0, d, F), rfl, ⟨trivial, hI, rfl, rfl, rfl⟩, by rw [ht]; exact hP, hD⟩, hS.F ht⟩) hS.2.2 dX7_event_29
  · refine lv_aload_n hx hb dX7_event_19 rfl (lv_at hl 0 rfl) ?_
    refine va_get (D := D) (ci := 7) (v := .ref ((a 6))) (C := RX7) (T := TX7) (N := 41) hx hb hts hi7 hown hK hP 0 rfl rfl 40 (by decide) (hts (.fieldLink RX7 89 "GuardedCallsModel" "events" "[I") (by decide +kernel)) (fun _ h9 => h9) rfl dX7_event_20 ?_
    refine lv_iload_n hx hb dX7_event_23 rfl (lv_at hl 1 rfl) ?_
    refine va_iald (D := D) hx hb hK hP 6 0 (f := (F 5)) (n := 8) rfl rfl (ev_in hI.1 (by rw [← e1]; exact c3)) dX7_event_24 ?_
    refine lv_topi (fun x4 e4 => ?_)
    refine lv_goto (tgt := 29) hx hb dX7_event_25 (by decide) ?_
    exact W.iret (v := x4) hx hb hr (fun t ht hW => ⟨⟨_, (upd g 0 0, d, F), rfl, ⟨trivial, hI, rfl, rfl, rfl⟩, by rw [ht]; exact hP, hD⟩, hS.F ht⟩) hS.2.2 dX7_event_29
