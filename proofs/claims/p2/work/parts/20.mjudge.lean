theorem dec7 {c z : Int32} (h : c = z) (hz : 1 ≤ z.toInt ∧ z.toInt ≤ 8) : 0 ≤ (c - 1).toInt ∧ (c - 1).toInt ≤ 7 ∧ (c - 1).toInt + 1 = z.toInt := by
  subst h
  rw [i_dec hz.1]
  omega
theorem judge_dec {g : Nat → Int32} (ht : TOK g) (h23 : g 23 = 0) (h : g 21 = g 11) (hz : 1 ≤ (g 11).toInt ∧ (g 11).toInt ≤ 8) : M6 (g 18) (g 21 - 1) (g 14) (g 11) := by
  obtain ⟨h1, h2, h3⟩ := dec7 h hz
  rcases ht with ⟨ha, hb⟩ | ⟨ha, hb⟩
  · rw [h23] at ha; exact absurd ha (by decide)
  · exact ⟨h1, fun e => absurd e hb, fun _ => by omega⟩
theorem in8_succ {k t : Int32} (h0 : 0 ≤ k.toInt) (h1 : ¬ t ≤ k) (ht : t.toInt ≤ 7) : vp_in (k + 1) 8 := by
  have h2 := i_lt h1
  rw [vp_in_iff, i_inc h1]
  omega
theorem in20_succ {k t : Int32} (h0 : 0 ≤ k.toInt) (h1 : ¬ t ≤ k) (ht : t.toInt ≤ 19) : vp_in (k + 1) 20 := by
  have h2 := i_lt h1
  rw [vp_in_iff, i_inc h1]
  omega
theorem in20_lt {k t : Int32} (h0 : 0 ≤ k.toInt) (h1 : ¬ t ≤ k) (ht : t.toInt ≤ 20) : vp_in k 20 := vp_in_iff.mpr ⟨h0, by have := i_lt h1; omega⟩
theorem cnt_up {c : Int32} (h : vp_in c 8) : 0 ≤ (c + 1).toInt ∧ (c + 1).toInt ≤ 8 := by
  rw [vp_in_iff] at h
  rw [i_inc8 h.1 (by omega)]
  omega
theorem judge_A {g : Nat → Int32} {x : Int32} (ht : TOK g) (h : ¬ g 23 = 0) (h0 : 0 ≤ x.toInt) (h1 : x < g 14) : M6 (g 18) x (g 14) (g 11) := by
  rw [Int32.lt_iff_toInt_lt] at h1
  rcases ht with ⟨ha, hb⟩ | ⟨ha, hb⟩
  · exact ⟨h0, fun _ => h1, fun e => absurd hb e⟩
  · exact absurd ha h
theorem judge_B {g : Nat → Int32} {x : Int32} (ht : TOK g) (h : g 23 = 0) (h0 : 0 ≤ x.toInt) (h1 : x.toInt ≤ (g 11).toInt) : M6 (g 18) x (g 14) (g 11) := by
  rcases ht with ⟨ha, hb⟩ | ⟨ha, hb⟩
  · rw [h] at ha; exact absurd ha (by decide)
  · exact ⟨h0, fun e => absurd e hb, fun _ => h1⟩
theorem judge_le {g : Nat → Int32} (ht : TOK g) (h : g 23 = 0) (hm : M6 (g 18) (g 21) (g 14) (g 11)) (hz : (g 11).toInt ≤ 8) (hc : ¬ g 21 = g 11) : (g 21 + 1).toInt ≤ (g 11).toInt := by
  rcases ht with ⟨ha, hb⟩ | ⟨ha, hb⟩
  · rw [h] at ha; exact absurd ha (by decide)
  · have h1 := hm.2.2 hb
    have h2 : (g 21).toInt ≠ (g 11).toInt := fun e => hc (Int32.toInt_inj.mp e)
    rw [i_inc8 hm.1 (by omega)]
    omega
theorem M9_at {f : Nat → Int32} (h : M9 f) {x : Int32} (hx : vp_in x 20) : 0 ≤ (f x.toNatClampNeg).toInt ∧ (f x.toNatClampNeg).toInt ≤ 2 := by
  obtain ⟨j, hj, rfl⟩ := vp_in_of hx (by decide)
  rw [nI_clamp (by omega)]
  exact h j hj
theorem pos_of {x : Int32} (h0 : 0 ≤ x.toInt) (h : ¬ x = 0) : 1 ≤ x.toInt := by
  have : x.toInt ≠ 0 := fun e => h (Int32.toInt_inj.mp (e.trans rfl))
  omega
abbrev EP (k : Int32) (g : Nat → Int32) (F : Nat → Nat → Int32) (r : Int32) (u : SS) : Prop := 0 ≤ r.toInt ∧ MI u.1 u.2.1 u.2.2 ∧ u.1 3 = g 3 ∧ u.1 26 = g 26 ∧ u.2.2 0 = F 0 ∧ u.1 32 = g 32 ∧ (k = 0 → r = 0 → TOK u.1) ∧ (¬ k = 0 → u.1 18 = g 18 ∧ u.1 23 = g 23) ∧ (¬ k = 3 → u.1 37 = g 37) ∧ (k = 3 → u.1 37 = 1)
set_option maxHeartbeats 4000000 in
set_option maxRecDepth 100000 in
theorem s_X7_judge (l : Launch) (D : va_G) (cI : ClassId) (a : Nat → Nat) (sz : Nat) (g : Nat → Int32) (d : Nat → UInt64) (F : Nat → Nat → Int32) (p_b : Int32) (hI : MI g d F) (hT : TOK g) : Met l yX7_judge wsX7_judge ({ frames := 2, cells := 0, slots := 0, locals := 44 }) (gP (KM D cI) D (mw cI a g d F) sz [.ref (a 0), .int p_b]) (va_Qv (fun (u : SS) => (True) ∧ MI u.1 u.2.1 u.2.2 ∧ u.1 3 = g 3 ∧ u.1 26 = g 26 ∧ u.2.2 0 = F 0 ∧ u.1 32 = g 32 ∧ u.1 37 = g 37) (gB D (wfM cI a) (va_A (mw cI a g d F) sz)) (va_A (mw cI a g d F) sz)) 0 0 (va_A (mw cI a g d F) sz) := by
  refine Met.ofW (cc := cX7_judge) (maxL := 5) (ret := none) (by decide) rfl ?_
  intro p e s m args below meth c s₁ B hml hv
  obtain ⟨rfl, hsz, hP, hD0, hKK⟩ := hv
  have hx := B.exec
  have hb := B.bytes
  have hr := B.returns
  have hts := atoms_spec (ws := wsX7_judge) B.pre
  have hown : s.vm.findClass RX7 = some m.cls := findClass_of_methodNamed B.named
  have hlocks := B.notSynchronized
  subst hsz
  have hK := hKK.1
  have hok := KM_ok D cI
  have hD := hD0.self (sz := s.heap.size)
  generalize hAe : va_A (mw cI a g d F) s.heap.size = A at hD ⊢
  have hi7 : ∀ w ∈ wsX70, w ∈ wsX7_judge := fun w h => List.mem_cons_of_mem _ (List.mem_append_right _ h)
  have hA : ∀ q : Nat, s.heap.size ≤ q → A q := fun q h => by rw [← hAe]; exact Or.inr h
  have hS : va_S A s.heap s.heap [] := va_S.rf
  have hP : va_P D vwCl (mw cI a g d F) s.heap := hP
  have hl := lv_entry ([.ref ((a 0)), .int p_b]) (n := 5) (Nat.le_of_ble_eq_true rfl)
  rw [lg_entry_eq]
  generalize (lg_sl ([.ref ((a 0)), .int p_b]) ++ List.replicate (5 - (lg_sl ([.ref ((a 0)), .int p_b])).length) Slot.unset).toArray = ls at hl ⊢
  have hl : lv_has ls 5 [(0, .ref ((a 0))), (1, .int p_b)] := hl
  refine gl_cut (σ := Int32) (pc := 32) (Inv := fun yc H locs ls => va_P D vwCl (mw cI a g d F) H ∧ va_D A (mw cI a g d F) ∧ va_S A s.heap H locs ∧ lv_has ls 5 [(2, .int yc), (0, .ref ((a 0))), (1, .int p_b)]) (fun yc H locs ls hv => ?_) (fun kc32 => ?_)
  · obtain ⟨hP, hD, hS, hl⟩ := hv
    refine lv_aload_n hx hb dX7_judge_32 rfl (lv_at hl 1 rfl) ?_
    refine va_get (D := D) (ci := 7) (v := .int ((g 23))) (C := RX7) (T := TX7) (N := 41) hx hb hts hi7 hown hK hP 0 rfl rfl 23 (by decide) (hts (.fieldLink RX7 130 "GuardedCallsModel" "trial" "Z") (by decide +kernel)) (fun _ h9 => h9) rfl dX7_judge_33 ?_
    refine lv_if_ne (tgt := 90) hx hb dX7_judge_36 (by decide) (fun c1 => ?_) (fun c1 => ?_)
    · refine lv_aload_n hx hb dX7_judge_90 rfl (lv_at hl 1 rfl) ?_
      refine va_get (D := D) (ci := 7) (v := .ref ((a 5))) (C := RX7) (T := TX7) (N := 41) hx hb hts hi7 hown hK hP 0 rfl rfl 22 (by decide) (hts (.fieldLink RX7 49 "GuardedCallsModel" "window" "[I") (by decide +kernel)) (fun _ h9 => h9) rfl dX7_judge_91 ?_
      refine lv_aload_n hx hb dX7_judge_94 rfl (lv_at hl 1 rfl) ?_
      refine va_get (D := D) (ci := 7) (v := .int ((g 21))) (C := RX7) (T := TX7) (N := 41) hx hb hts hi7 hown hK hP 0 rfl rfl 21 (by decide) (hts (.fieldLink RX7 112 "GuardedCallsModel" "count" "I") (by decide +kernel)) (fun _ h9 => h9) rfl dX7_judge_95 ?_
      refine lv_iload_n hx hb dX7_judge_98 rfl (lv_at hl 0 rfl) ?_
      refine va_iast (D := D) hx hb hK hP hD hS 5 0 (f := (F 4)) (n := 8) rfl rfl ((win_in hI.2.2.2.1 hI.2.2.2.2.2.1 hT (Or.inl c1))) dX7_judge_99 (fun H locs hP hD hS => ?_)
      have hP : va_P D vwCl (mw cI a g d (vf_upd F 4 (upd (F 4) ((g 21)).toNatClampNeg yc))) H := hP
      have hD : va_D A (mw cI a g d (vf_upd F 4 (upd (F 4) ((g 21)).toNatClampNeg yc))) := hD
      refine lv_aload_n hx hb dX7_judge_100 rfl (lv_at hl 1 rfl) ?_
      refine lv_aload_n hx hb dX7_judge_101 rfl (lv_at hl 1 rfl) ?_
      refine va_get (D := D) (ci := 7) (v := .int ((g 21))) (C := RX7) (T := TX7) (N := 41) hx hb hts hi7 hown hK hP 0 rfl rfl 21 (by decide) (hts (.fieldLink RX7 112 "GuardedCallsModel" "count" "I") (by decide +kernel)) (fun _ h9 => h9) rfl dX7_judge_102 ?_
      refine lv_iconst (v := 1) hx hb dX7_judge_105 (by decide) ?_
      refine lv_iadd hx hb dX7_judge_106 ?_
      refine lv_topi (fun x2 e2 => ?_)
      refine va_put (D := D) (ci := 7) (v := .int x2) (ty := .int) (C := RX7) (T := TX7) (N := 41) hx hb hts hi7 tyX7 tyX7_ok nmX7 hown hK hP hD hS 0 rfl rfl 21 (by decide) (hts (.fieldLink RX7 112 "GuardedCallsModel" "count" "I") (by decide +kernel)) (fun _ h9 => h9) rfl (by decide +kernel) rfl rfl (Nat.le_of_ble_eq_true rfl) dX7_judge_107 (fun H locs hP hD hS => ?_)
      have hP : va_P D vwCl (mw cI a (upd g 21 x2) d (vf_upd F 4 (upd (F 4) ((g 21)).toNatClampNeg yc))) H := hP
      have hD : va_D A (mw cI a (upd g 21 x2) d (vf_upd F 4 (upd (F 4) ((g 21)).toNatClampNeg yc))) := hD
      refine lv_aload_n hx hb dX7_judge_110 rfl (lv_at hl 1 rfl) ?_
      refine va_get (D := D) (ci := 7) (v := .int x2) (C := RX7) (T := TX7) (N := 41) hx hb hts hi7 hown hK hP 0 rfl rfl 21 (by decide) (hts (.fieldLink RX7 112 "GuardedCallsModel" "count" "I") (by decide +kernel)) (fun _ h9 => h9) rfl dX7_judge_111 ?_
      refine lv_aload_n hx hb dX7_judge_114 rfl (lv_at hl 1 rfl) ?_
      refine va_get (D := D) (ci := 7) (v := .int ((g 23))) (C := RX7) (T := TX7) (N := 41) hx hb hts hi7 hown hK hP 0 rfl rfl 23 (by decide) (hts (.fieldLink RX7 130 "GuardedCallsModel" "trial" "Z") (by decide +kernel)) (fun _ h9 => h9) rfl dX7_judge_115 ?_
      refine lv_if_eq (tgt := 128) hx hb dX7_judge_118 (by decide) (fun c3 => ?_) (fun c3 => ?_)
      · exact absurd c3 c1
      · refine lv_aload_n hx hb dX7_judge_121 rfl (lv_at hl 1 rfl) ?_
        refine va_get (D := D) (ci := 7) (v := .int ((g 14))) (C := RX7) (T := TX7) (N := 41) hx hb hts hi7 hown hK hP 0 rfl rfl 14 (by decide) (hts (.fieldLink RX7 32 "GuardedCallsModel" "most" "I") (by decide +kernel)) (fun _ h9 => h9) rfl dX7_judge_122 ?_
        refine lv_goto (tgt := 132) hx hb dX7_judge_125 (by decide) ?_
        refine lv_icmp_lt (tgt := 139) hx hb dX7_judge_132 (by decide) (fun c4 => ?_) (fun c4 => ?_)
        · refine lv_iconst (v := 0) hx hb dX7_judge_139 (by decide) ?_
          refine lv_istore_n (lv' := [(3, .int 0), (2, .int yc), (0, .ref ((a 0))), (1, .int p_b)]) hx hb dX7_judge_140 rfl hl (by decide) rfl (fun ls hl => ?_)
          refine lv_iload_n hx hb dX7_judge_141 rfl (lv_at hl 0 rfl) ?_
          refine lv_if_ne (tgt := 146) hx hb dX7_judge_142 (by decide) (fun c5 => ?_) (fun c5 => ?_)
          · exact absurd c5 (by decide)
          · exact W.vret hx hb hr (fun t ht hW => ⟨⟨(upd g 21 x2, d, vf_upd F 4 (upd (F 4) ((g 21)).toNatClampNeg yc)), rfl, ⟨trivial, ⟨hI.1, hI.2.1, hI.2.2.1, hI.2.2.2.1, hI.2.2.2.2.1, by show M6 (g 18) x2 (g 14) (g 11); exact judge_A hT c1 (by rw [e2]; exact (cnt_up (win_in hI.2.2.2.1 hI.2.2.2.2.2.1 hT (Or.inl c1))).1) c4, hI.2.2.2.2.2.2.1, hI.2.2.2.2.2.2.2.1, hI.2.2.2.2.2.2.2.2⟩, rfl, rfl, rfl, rfl, rfl⟩, by rw [ht]; exact hP, hD⟩, hS.F ht⟩) hS.2.2 dX7_judge_145
        · refine lv_iconst (v := 1) hx hb dX7_judge_135 (by decide) ?_
          refine lv_goto (tgt := 140) hx hb dX7_judge_136 (by decide) ?_
          refine lv_istore_n (lv' := [(3, .int 1), (2, .int yc), (0, .ref ((a 0))), (1, .int p_b)]) hx hb dX7_judge_140 rfl hl (by decide) rfl (fun ls hl => ?_)
          refine lv_iload_n hx hb dX7_judge_141 rfl (lv_at hl 0 rfl) ?_
          refine lv_if_ne (tgt := 146) hx hb dX7_judge_142 (by decide) (fun c6 => ?_) (fun c6 => ?_)
          · refine lv_aload_n hx hb dX7_judge_146 rfl (lv_at hl 2 rfl) ?_
            refine lv_iconst (v := 1) hx hb dX7_judge_147 (by decide) ?_
            refine gc_vd (As := [.int 1]) (rest := []) (w0 := mw cI a (upd g 21 x2) d (vf_upd F 4 (upd (F 4) ((g 21)).toNatClampNeg yc))) (wc := mw cI a (upd g 21 x2) d (vf_upd F 4 (upd (F 4) ((g 21)).toNatClampNeg yc))) (wr := []) (wf := wfM cI a) ⟨hx, hb, hml, hown, hts⟩ hKK hok hP hD hS hA [0, 1, 2, 3, 4, 5, 6] [] rfl rfl (by decide) (s_X7_rate l D cI a _ (upd g 21 x2) d (vf_upd F 4 (upd (F 4) ((g 21)).toNatClampNeg yc)) 1 (by show 0 ≤ (x2).toInt ∧ (x2).toInt ≤ 8; rw [e2]; exact cnt_up (win_in hI.2.2.2.1 hI.2.2.2.2.2.1 hT (Or.inl c1)))) (cwV 1 hts gX7_judge_X7_rate rfl rfl rfl (by decide +kernel) ⟨Nat.le_of_ble_eq_true rfl, Nat.le_of_ble_eq_true rfl⟩) (va_recv hK hP (ci := 7) (q0 := 0) rfl rfl) rfl hl.1 rfl (Nat.le_of_ble_eq_true rfl) dX7_judge_148 ⟨Nat.le_of_ble_eq_true rfl, Nat.le_of_ble_eq_true rfl⟩ (fun r7 u7 H locs hw7 hP hD hS => ?_)
            subst hw7
            have hP : va_P D vwCl (mw cI a (upd g 21 x2) d (vf_upd F 4 (upd (F 4) ((g 21)).toNatClampNeg yc))) H := hP
            have hD : va_D A (mw cI a (upd g 21 x2) d (vf_upd F 4 (upd (F 4) ((g 21)).toNatClampNeg yc))) := hD
            refine lv_aload_n hx hb dX7_judge_151 rfl (lv_at hl 2 rfl) ?_
            refine va_get (D := D) (ci := 7) (v := .double ((d 16))) (C := RX7) (T := TX7) (N := 41) hx hb hts hi7 hown hK hP 0 rfl rfl 16 (by decide) (hts (.fieldLink RX7 40 "GuardedCallsModel" "failures" "D") (by decide +kernel)) (fun _ h9 => h9) rfl dX7_judge_152 ?_
            refine lv_dcmp hx hb dX7_judge_155 ?_
            refine lv_if_ge (tgt := 172) hx hb dX7_judge_156 (by decide) (fun c8 => ?_) (fun c8 => ?_)
            · refine lv_iconst (v := 1) hx hb dX7_judge_172 (by decide) ?_
              refine lv_goto (tgt := 177) hx hb dX7_judge_173 (by decide) ?_
              refine lv_istore (lv' := [(4, .int 1), (3, .int 1), (2, .int yc), (0, .ref ((a 0))), (1, .int p_b)]) hx hb dX7_judge_177 hl (by decide) rfl (fun ls hl => ?_)
              refine lv_iload hx hb dX7_judge_179 (lv_at hl 0 rfl) ?_
              refine lv_if_eq (tgt := 205) hx hb dX7_judge_181 (by decide) (fun c9 => ?_) (fun c9 => ?_)
              · exact absurd c9 (by decide)
              · refine lv_aload_n hx hb dX7_judge_184 rfl (lv_at hl 3 rfl) ?_
                refine lv_iconst (v := 1) hx hb dX7_judge_185 (by decide) ?_
                refine gc_vv (As := [.int 1]) (rest := []) (w0 := mw cI a (upd g 21 x2) d (vf_upd F 4 (upd (F 4) ((g 21)).toNatClampNeg yc))) (wc := mw cI a (upd g 21 x2) d (vf_upd F 4 (upd (F 4) ((g 21)).toNatClampNeg yc))) (wr := []) (wf := wfM cI a) ⟨hx, hb, hml, hown, hts⟩ hKK hok hP hD hS hA [0, 1, 2, 3, 4, 5, 6] [] rfl rfl (by decide) (s_X7_become l D cI a _ (upd g 21 x2) d (vf_upd F 4 (upd (F 4) ((g 21)).toNatClampNeg yc)) 1) (cwV 1 hts gX7_judge_X7_become rfl rfl rfl (by decide +kernel) ⟨Nat.le_of_ble_eq_true rfl, Nat.le_of_ble_eq_true rfl⟩) (va_recv hK hP (ci := 7) (q0 := 0) rfl rfl) rfl hl.1 rfl (Nat.le_of_ble_eq_true rfl) dX7_judge_186 ⟨Nat.le_of_ble_eq_true rfl, Nat.le_of_ble_eq_true rfl⟩ (fun u10 H locs hw10 hP hD hS => ?_)
                subst hw10
                have hP : va_P D vwCl (mw cI a (upd (upd (upd (upd g 21 x2) 18 1) 21 0) 20 0) d (vf_upd F 4 (upd (F 4) ((g 21)).toNatClampNeg yc))) H := hP
                have hD : va_D A (mw cI a (upd (upd (upd (upd g 21 x2) 18 1) 21 0) 20 0) d (vf_upd F 4 (upd (F 4) ((g 21)).toNatClampNeg yc))) := hD
                have hI11 : MI (upd (upd (upd (upd g 21 x2) 18 1) 21 0) 20 0) d (vf_upd F 4 (upd (F 4) ((g 21)).toNatClampNeg yc)) := ⟨hI.1, hI.2.1, hI.2.2.1, hI.2.2.2.1, hI.2.2.2.2.1, M6_zero hI.2.2.2.1.2.1 hI.2.2.2.1.1.1, hI.2.2.2.2.2.2.1, hI.2.2.2.2.2.2.2.1, hI.2.2.2.2.2.2.2.2⟩
                refine lv_aload_n hx hb dX7_judge_189 rfl (lv_at hl 3 rfl) ?_
                refine lv_aload_n hx hb dX7_judge_190 rfl (lv_at hl 3 rfl) ?_
                refine va_get (D := D) (ci := 7) (v := .int ((g 1))) (C := RX7) (T := TX7) (N := 41) hx hb hts hi7 hown hK hP 0 rfl rfl 1 (by decide) (hts (.fieldLink RX7 102 "GuardedCallsModel" "clock" "I") (by decide +kernel)) (fun _ h9 => h9) rfl dX7_judge_191 ?_
                refine va_put (D := D) (ci := 7) (v := .int ((g 1))) (ty := .int) (C := RX7) (T := TX7) (N := 41) hx hb hts hi7 tyX7 tyX7_ok nmX7 hown hK hP hD hS 0 rfl rfl 19 (by decide) (hts (.fieldLink RX7 124 "GuardedCallsModel" "opened" "I") (by decide +kernel)) (fun _ h9 => h9) rfl (by decide +kernel) rfl rfl (Nat.le_of_ble_eq_true rfl) dX7_judge_194 (fun H locs hP hD hS => ?_)
                have hP : va_P D vwCl (mw cI a (upd (upd (upd (upd (upd g 21 x2) 18 1) 21 0) 20 0) 19 ((g 1))) d (vf_upd F 4 (upd (F 4) ((g 21)).toNatClampNeg yc))) H := hP
                have hD : va_D A (mw cI a (upd (upd (upd (upd (upd g 21 x2) 18 1) 21 0) 20 0) 19 ((g 1))) d (vf_upd F 4 (upd (F 4) ((g 21)).toNatClampNeg yc))) := hD
                refine lv_aload_n hx hb dX7_judge_197 rfl (lv_at hl 3 rfl) ?_
                refine lv_iconst (v := 2) hx hb dX7_judge_198 (by decide) ?_
                refine gc_vv (As := [.int 2]) (rest := []) (w0 := mw cI a (upd (upd (upd (upd (upd g 21 x2) 18 1) 21 0) 20 0) 19 ((g 1))) d (vf_upd F 4 (upd (F 4) ((g 21)).toNatClampNeg yc))) (wc := mw cI a (upd (upd (upd (upd (upd g 21 x2) 18 1) 21 0) 20 0) 19 ((g 1))) d (vf_upd F 4 (upd (F 4) ((g 21)).toNatClampNeg yc))) (wr := []) (wf := wfM cI a) ⟨hx, hb, hml, hown, hts⟩ hKK hok hP hD hS hA [0, 1, 2, 3, 4, 5, 6] [] rfl rfl (by decide) (s_X7_note l D cI a _ (upd (upd (upd (upd (upd g 21 x2) 18 1) 21 0) 20 0) 19 ((g 1))) d (vf_upd F 4 (upd (F 4) ((g 21)).toNatClampNeg yc)) 2 hI11) (cwV 1 hts gX7_judge_X7_note rfl rfl rfl (by decide +kernel) ⟨Nat.le_of_ble_eq_true rfl, Nat.le_of_ble_eq_true rfl⟩) (va_recv hK hP (ci := 7) (q0 := 0) rfl rfl) rfl hl.1 rfl (Nat.le_of_ble_eq_true rfl) dX7_judge_199 ⟨Nat.le_of_ble_eq_true rfl, Nat.le_of_ble_eq_true rfl⟩ (fun u12 H locs hw12 hP hD hS => ?_)
                obtain ⟨g12, d12, F12⟩ := u12
                have hP : va_P D vwCl (mw cI a g12 d12 F12) H := hP
                have hD : va_D A (mw cI a g12 d12 F12) := hD
                refine lv_goto (tgt := 222) hx hb dX7_judge_202 (by decide) ?_
                exact W.vret hx hb hr (fun t ht hW => ⟨⟨(g12, d12, F12), rfl, ⟨trivial, hw12.2.1, hw12.2.2.1, hw12.2.2.2.1, hw12.2.2.2.2.1, hw12.2.2.2.2.2.1, hw12.2.2.2.2.2.2.2.2.2⟩, by rw [ht]; exact hP, hD⟩, hS.F ht⟩) hS.2.2 dX7_judge_222
            · refine lv_aload_n hx hb dX7_judge_159 rfl (lv_at hl 2 rfl) ?_
              refine lv_iconst (v := 2) hx hb dX7_judge_160 (by decide) ?_
              refine gc_vd (As := [.int 2]) (rest := []) (w0 := mw cI a (upd g 21 x2) d (vf_upd F 4 (upd (F 4) ((g 21)).toNatClampNeg yc))) (wc := mw cI a (upd g 21 x2) d (vf_upd F 4 (upd (F 4) ((g 21)).toNatClampNeg yc))) (wr := []) (wf := wfM cI a) ⟨hx, hb, hml, hown, hts⟩ hKK hok hP hD hS hA [0, 1, 2, 3, 4, 5, 6] [] rfl rfl (by decide) (s_X7_rate l D cI a _ (upd g 21 x2) d (vf_upd F 4 (upd (F 4) ((g 21)).toNatClampNeg yc)) 2 (by show 0 ≤ (x2).toInt ∧ (x2).toInt ≤ 8; rw [e2]; exact cnt_up (win_in hI.2.2.2.1 hI.2.2.2.2.2.1 hT (Or.inl c1)))) (cwV 1 hts gX7_judge_X7_rate rfl rfl rfl (by decide +kernel) ⟨Nat.le_of_ble_eq_true rfl, Nat.le_of_ble_eq_true rfl⟩) (va_recv hK hP (ci := 7) (q0 := 0) rfl rfl) rfl hl.1 rfl (Nat.le_of_ble_eq_true rfl) dX7_judge_161 ⟨Nat.le_of_ble_eq_true rfl, Nat.le_of_ble_eq_true rfl⟩ (fun r13 u13 H locs hw13 hP hD hS => ?_)
              subst hw13
              have hP : va_P D vwCl (mw cI a (upd g 21 x2) d (vf_upd F 4 (upd (F 4) ((g 21)).toNatClampNeg yc))) H := hP
              have hD : va_D A (mw cI a (upd g 21 x2) d (vf_upd F 4 (upd (F 4) ((g 21)).toNatClampNeg yc))) := hD
              refine lv_aload_n hx hb dX7_judge_164 rfl (lv_at hl 2 rfl) ?_
              refine va_get (D := D) (ci := 7) (v := .double ((d 17))) (C := RX7) (T := TX7) (N := 41) hx hb hts hi7 hown hK hP 0 rfl rfl 17 (by decide) (hts (.fieldLink RX7 46 "GuardedCallsModel" "slugs" "D") (by decide +kernel)) (fun _ h9 => h9) rfl dX7_judge_165 ?_
              refine lv_dcmp hx hb dX7_judge_168 ?_
              refine lv_if_lt (tgt := 176) hx hb dX7_judge_169 (by decide) (fun c14 => ?_) (fun c14 => ?_)
              · refine lv_iconst (v := 0) hx hb dX7_judge_176 (by decide) ?_
                refine lv_istore (lv' := [(4, .int 0), (3, .int 1), (2, .int yc), (0, .ref ((a 0))), (1, .int p_b)]) hx hb dX7_judge_177 hl (by decide) rfl (fun ls hl => ?_)
                refine lv_iload hx hb dX7_judge_179 (lv_at hl 0 rfl) ?_
                refine lv_if_eq (tgt := 205) hx hb dX7_judge_181 (by decide) (fun c15 => ?_) (fun c15 => ?_)
                · refine lv_aload_n hx hb dX7_judge_205 rfl (lv_at hl 3 rfl) ?_
                  refine va_get (D := D) (ci := 7) (v := .int ((g 23))) (C := RX7) (T := TX7) (N := 41) hx hb hts hi7 hown hK hP 0 rfl rfl 23 (by decide) (hts (.fieldLink RX7 130 "GuardedCallsModel" "trial" "Z") (by decide +kernel)) (fun _ h9 => h9) rfl dX7_judge_206 ?_
                  refine lv_if_eq (tgt := 222) hx hb dX7_judge_209 (by decide) (fun c16 => ?_) (fun c16 => ?_)
                  · exact absurd c16 c1
                  · refine lv_aload_n hx hb dX7_judge_212 rfl (lv_at hl 3 rfl) ?_
                    refine lv_iconst (v := 0) hx hb dX7_judge_213 (by decide) ?_
                    refine gc_vv (As := [.int 0]) (rest := []) (w0 := mw cI a (upd g 21 x2) d (vf_upd F 4 (upd (F 4) ((g 21)).toNatClampNeg yc))) (wc := mw cI a (upd g 21 x2) d (vf_upd F 4 (upd (F 4) ((g 21)).toNatClampNeg yc))) (wr := []) (wf := wfM cI a) ⟨hx, hb, hml, hown, hts⟩ hKK hok hP hD hS hA [0, 1, 2, 3, 4, 5, 6] [] rfl rfl (by decide) (s_X7_become l D cI a _ (upd g 21 x2) d (vf_upd F 4 (upd (F 4) ((g 21)).toNatClampNeg yc)) 0) (cwV 1 hts gX7_judge_X7_become rfl rfl rfl (by decide +kernel) ⟨Nat.le_of_ble_eq_true rfl, Nat.le_of_ble_eq_true rfl⟩) (va_recv hK hP (ci := 7) (q0 := 0) rfl rfl) rfl hl.1 rfl (Nat.le_of_ble_eq_true rfl) dX7_judge_214 ⟨Nat.le_of_ble_eq_true rfl, Nat.le_of_ble_eq_true rfl⟩ (fun u17 H locs hw17 hP hD hS => ?_)
                    subst hw17
                    have hP : va_P D vwCl (mw cI a (upd (upd (upd (upd g 21 x2) 18 0) 21 0) 20 0) d (vf_upd F 4 (upd (F 4) ((g 21)).toNatClampNeg yc))) H := hP
                    have hD : va_D A (mw cI a (upd (upd (upd (upd g 21 x2) 18 0) 21 0) 20 0) d (vf_upd F 4 (upd (F 4) ((g 21)).toNatClampNeg yc))) := hD
                    have hI18 : MI (upd (upd (upd (upd g 21 x2) 18 0) 21 0) 20 0) d (vf_upd F 4 (upd (F 4) ((g 21)).toNatClampNeg yc)) := ⟨hI.1, hI.2.1, hI.2.2.1, hI.2.2.2.1, hI.2.2.2.2.1, M6_zero hI.2.2.2.1.2.1 hI.2.2.2.1.1.1, hI.2.2.2.2.2.2.1, hI.2.2.2.2.2.2.2.1, hI.2.2.2.2.2.2.2.2⟩
                    refine lv_aload_n hx hb dX7_judge_217 rfl (lv_at hl 3 rfl) ?_
                    refine lv_iconst (v := 4) hx hb dX7_judge_218 (by decide) ?_
                    refine gc_vv (As := [.int 4]) (rest := []) (w0 := mw cI a (upd (upd (upd (upd g 21 x2) 18 0) 21 0) 20 0) d (vf_upd F 4 (upd (F 4) ((g 21)).toNatClampNeg yc))) (wc := mw cI a (upd (upd (upd (upd g 21 x2) 18 0) 21 0) 20 0) d (vf_upd F 4 (upd (F 4) ((g 21)).toNatClampNeg yc))) (wr := []) (wf := wfM cI a) ⟨hx, hb, hml, hown, hts⟩ hKK hok hP hD hS hA [0, 1, 2, 3, 4, 5, 6] [] rfl rfl (by decide) (s_X7_note l D cI a _ (upd (upd (upd (upd g 21 x2) 18 0) 21 0) 20 0) d (vf_upd F 4 (upd (F 4) ((g 21)).toNatClampNeg yc)) 4 hI18) (cwV 1 hts gX7_judge_X7_note rfl rfl rfl (by decide +kernel) ⟨Nat.le_of_ble_eq_true rfl, Nat.le_of_ble_eq_true rfl⟩) (va_recv hK hP (ci := 7) (q0 := 0) rfl rfl) rfl hl.1 rfl (Nat.le_of_ble_eq_true rfl) dX7_judge_219 ⟨Nat.le_of_ble_eq_true rfl, Nat.le_of_ble_eq_true rfl⟩ (fun u19 H locs hw19 hP hD hS => ?_)
                    obtain ⟨g19, d19, F19⟩ := u19
                    have hP : va_P D vwCl (mw cI a g19 d19 F19) H := hP
                    have hD : va_D A (mw cI a g19 d19 F19) := hD
                    exact W.vret hx hb hr (fun t ht hW => ⟨⟨(g19, d19, F19), rfl, ⟨trivial, hw19.2.1, hw19.2.2.1, hw19.2.2.2.1, hw19.2.2.2.2.1, hw19.2.2.2.2.2.1, hw19.2.2.2.2.2.2.2.2.2⟩, by rw [ht]; exact hP, hD⟩, hS.F ht⟩) hS.2.2 dX7_judge_222
                · exact absurd c15 (by decide)
              · refine lv_iconst (v := 1) hx hb dX7_judge_172 (by decide) ?_
                refine lv_goto (tgt := 177) hx hb dX7_judge_173 (by decide) ?_
                refine lv_istore (lv' := [(4, .int 1), (3, .int 1), (2, .int yc), (0, .ref ((a 0))), (1, .int p_b)]) hx hb dX7_judge_177 hl (by decide) rfl (fun ls hl => ?_)
                refine lv_iload hx hb dX7_judge_179 (lv_at hl 0 rfl) ?_
                refine lv_if_eq (tgt := 205) hx hb dX7_judge_181 (by decide) (fun c20 => ?_) (fun c20 => ?_)
                · exact absurd c20 (by decide)
                · refine lv_aload_n hx hb dX7_judge_184 rfl (lv_at hl 3 rfl) ?_
                  refine lv_iconst (v := 1) hx hb dX7_judge_185 (by decide) ?_
                  refine gc_vv (As := [.int 1]) (rest := []) (w0 := mw cI a (upd g 21 x2) d (vf_upd F 4 (upd (F 4) ((g 21)).toNatClampNeg yc))) (wc := mw cI a (upd g 21 x2) d (vf_upd F 4 (upd (F 4) ((g 21)).toNatClampNeg yc))) (wr := []) (wf := wfM cI a) ⟨hx, hb, hml, hown, hts⟩ hKK hok hP hD hS hA [0, 1, 2, 3, 4, 5, 6] [] rfl rfl (by decide) (s_X7_become l D cI a _ (upd g 21 x2) d (vf_upd F 4 (upd (F 4) ((g 21)).toNatClampNeg yc)) 1) (cwV 1 hts gX7_judge_X7_become rfl rfl rfl (by decide +kernel) ⟨Nat.le_of_ble_eq_true rfl, Nat.le_of_ble_eq_true rfl⟩) (va_recv hK hP (ci := 7) (q0 := 0) rfl rfl) rfl hl.1 rfl (Nat.le_of_ble_eq_true rfl) dX7_judge_186 ⟨Nat.le_of_ble_eq_true rfl, Nat.le_of_ble_eq_true rfl⟩ (fun u21 H locs hw21 hP hD hS => ?_)
                  subst hw21
                  have hP : va_P D vwCl (mw cI a (upd (upd (upd (upd g 21 x2) 18 1) 21 0) 20 0) d (vf_upd F 4 (upd (F 4) ((g 21)).toNatClampNeg yc))) H := hP
                  have hD : va_D A (mw cI a (upd (upd (upd (upd g 21 x2) 18 1) 21 0) 20 0) d (vf_upd F 4 (upd (F 4) ((g 21)).toNatClampNeg yc))) := hD
                  have hI22 : MI (upd (upd (upd (upd g 21 x2) 18 1) 21 0) 20 0) d (vf_upd F 4 (upd (F 4) ((g 21)).toNatClampNeg yc)) := ⟨hI.1, hI.2.1, hI.2.2.1, hI.2.2.2.1, hI.2.2.2.2.1, M6_zero hI.2.2.2.1.2.1 hI.2.2.2.1.1.1, hI.2.2.2.2.2.2.1, hI.2.2.2.2.2.2.2.1, hI.2.2.2.2.2.2.2.2⟩
                  refine lv_aload_n hx hb dX7_judge_189 rfl (lv_at hl 3 rfl) ?_
                  refine lv_aload_n hx hb dX7_judge_190 rfl (lv_at hl 3 rfl) ?_
                  refine va_get (D := D) (ci := 7) (v := .int ((g 1))) (C := RX7) (T := TX7) (N := 41) hx hb hts hi7 hown hK hP 0 rfl rfl 1 (by decide) (hts (.fieldLink RX7 102 "GuardedCallsModel" "clock" "I") (by decide +kernel)) (fun _ h9 => h9) rfl dX7_judge_191 ?_
                  refine va_put (D := D) (ci := 7) (v := .int ((g 1))) (ty := .int) (C := RX7) (T := TX7) (N := 41) hx hb hts hi7 tyX7 tyX7_ok nmX7 hown hK hP hD hS 0 rfl rfl 19 (by decide) (hts (.fieldLink RX7 124 "GuardedCallsModel" "opened" "I") (by decide +kernel)) (fun _ h9 => h9) rfl (by decide +kernel) rfl rfl (Nat.le_of_ble_eq_true rfl) dX7_judge_194 (fun H locs hP hD hS => ?_)
                  have hP : va_P D vwCl (mw cI a (upd (upd (upd (upd (upd g 21 x2) 18 1) 21 0) 20 0) 19 ((g 1))) d (vf_upd F 4 (upd (F 4) ((g 21)).toNatClampNeg yc))) H := hP
                  have hD : va_D A (mw cI a (upd (upd (upd (upd (upd g 21 x2) 18 1) 21 0) 20 0) 19 ((g 1))) d (vf_upd F 4 (upd (F 4) ((g 21)).toNatClampNeg yc))) := hD
                  refine lv_aload_n hx hb dX7_judge_197 rfl (lv_at hl 3 rfl) ?_
                  refine lv_iconst (v := 2) hx hb dX7_judge_198 (by decide) ?_
                  refine gc_vv (As := [.int 2]) (rest := []) (w0 := mw cI a (upd (upd (upd (upd (upd g 21 x2) 18 1) 21 0) 20 0) 19 ((g 1))) d (vf_upd F 4 (upd (F 4) ((g 21)).toNatClampNeg yc))) (wc := mw cI a (upd (upd (upd (upd (upd g 21 x2) 18 1) 21 0) 20 0) 19 ((g 1))) d (vf_upd F 4 (upd (F 4) ((g 21)).toNatClampNeg yc))) (wr := []) (wf := wfM cI a) ⟨hx, hb, hml, hown, hts⟩ hKK hok hP hD hS hA [0, 1, 2, 3, 4, 5, 6] [] rfl rfl (by decide) (s_X7_note l D cI a _ (upd (upd (upd (upd (upd g 21 x2) 18 1) 21 0) 20 0) 19 ((g 1))) d (vf_upd F 4 (upd (F 4) ((g 21)).toNatClampNeg yc)) 2 hI22) (cwV 1 hts gX7_judge_X7_note rfl rfl rfl (by decide +kernel) ⟨Nat.le_of_ble_eq_true rfl, Nat.le_of_ble_eq_true rfl⟩) (va_recv hK hP (ci := 7) (q0 := 0) rfl rfl) rfl hl.1 rfl (Nat.le_of_ble_eq_true rfl) dX7_judge_199 ⟨Nat.le_of_ble_eq_true rfl, Nat.le_of_ble_eq_true rfl⟩ (fun u23 H locs hw23 hP hD hS => ?_)
                  obtain ⟨g23, d23, F23⟩ := u23
                  have hP : va_P D vwCl (mw cI a g23 d23 F23) H := hP
                  have hD : va_D A (mw cI a g23 d23 F23) := hD
                  refine lv_goto (tgt := 222) hx hb dX7_judge_202 (by decide) ?_
                  exact W.vret hx hb hr (fun t ht hW => ⟨⟨(g23, d23, F23), rfl, ⟨trivial, hw23.2.1, hw23.2.2.1, hw23.2.2.2.1, hw23.2.2.2.2.1, hw23.2.2.2.2.2.1, hw23.2.2.2.2.2.2.2.2.2⟩, by rw [ht]; exact hP, hD⟩, hS.F ht⟩) hS.2.2 dX7_judge_222
          · exact absurd c6 (by decide)
    · refine lv_aload_n hx hb dX7_judge_39 rfl (lv_at hl 1 rfl) ?_
      refine va_get (D := D) (ci := 7) (v := .int ((g 21))) (C := RX7) (T := TX7) (N := 41) hx hb hts hi7 hown hK hP 0 rfl rfl 21 (by decide) (hts (.fieldLink RX7 112 "GuardedCallsModel" "count" "I") (by decide +kernel)) (fun _ h9 => h9) rfl dX7_judge_40 ?_
      refine lv_aload_n hx hb dX7_judge_43 rfl (lv_at hl 1 rfl) ?_
      refine va_get (D := D) (ci := 7) (v := .int ((g 11))) (C := RX7) (T := TX7) (N := 41) hx hb hts hi7 hown hK hP 0 rfl rfl 11 (by decide) (hts (.fieldLink RX7 22 "GuardedCallsModel" "size" "I") (by decide +kernel)) (fun _ h9 => h9) rfl dX7_judge_44 ?_
      refine lv_icmp_ne (tgt := 90) hx hb dX7_judge_47 (by decide) (fun c24 => ?_) (fun c24 => ?_)
      · refine lv_aload_n hx hb dX7_judge_90 rfl (lv_at hl 1 rfl) ?_
        refine va_get (D := D) (ci := 7) (v := .ref ((a 5))) (C := RX7) (T := TX7) (N := 41) hx hb hts hi7 hown hK hP 0 rfl rfl 22 (by decide) (hts (.fieldLink RX7 49 "GuardedCallsModel" "window" "[I") (by decide +kernel)) (fun _ h9 => h9) rfl dX7_judge_91 ?_
        refine lv_aload_n hx hb dX7_judge_94 rfl (lv_at hl 1 rfl) ?_
        refine va_get (D := D) (ci := 7) (v := .int ((g 21))) (C := RX7) (T := TX7) (N := 41) hx hb hts hi7 hown hK hP 0 rfl rfl 21 (by decide) (hts (.fieldLink RX7 112 "GuardedCallsModel" "count" "I") (by decide +kernel)) (fun _ h9 => h9) rfl dX7_judge_95 ?_
        refine lv_iload_n hx hb dX7_judge_98 rfl (lv_at hl 0 rfl) ?_
        refine va_iast (D := D) hx hb hK hP hD hS 5 0 (f := (F 4)) (n := 8) rfl rfl ((win_in hI.2.2.2.1 hI.2.2.2.2.2.1 hT (Or.inr c24))) dX7_judge_99 (fun H locs hP hD hS => ?_)
        have hP : va_P D vwCl (mw cI a g d (vf_upd F 4 (upd (F 4) ((g 21)).toNatClampNeg yc))) H := hP
        have hD : va_D A (mw cI a g d (vf_upd F 4 (upd (F 4) ((g 21)).toNatClampNeg yc))) := hD
        refine lv_aload_n hx hb dX7_judge_100 rfl (lv_at hl 1 rfl) ?_
        refine lv_aload_n hx hb dX7_judge_101 rfl (lv_at hl 1 rfl) ?_
        refine va_get (D := D) (ci := 7) (v := .int ((g 21))) (C := RX7) (T := TX7) (N := 41) hx hb hts hi7 hown hK hP 0 rfl rfl 21 (by decide) (hts (.fieldLink RX7 112 "GuardedCallsModel" "count" "I") (by decide +kernel)) (fun _ h9 => h9) rfl dX7_judge_102 ?_
        refine lv_iconst (v := 1) hx hb dX7_judge_105 (by decide) ?_
        refine lv_iadd hx hb dX7_judge_106 ?_
        refine lv_topi (fun x25 e25 => ?_)
        refine va_put (D := D) (ci := 7) (v := .int x25) (ty := .int) (C := RX7) (T := TX7) (N := 41) hx hb hts hi7 tyX7 tyX7_ok nmX7 hown hK hP hD hS 0 rfl rfl 21 (by decide) (hts (.fieldLink RX7 112 "GuardedCallsModel" "count" "I") (by decide +kernel)) (fun _ h9 => h9) rfl (by decide +kernel) rfl rfl (Nat.le_of_ble_eq_true rfl) dX7_judge_107 (fun H locs hP hD hS => ?_)
        have hP : va_P D vwCl (mw cI a (upd g 21 x25) d (vf_upd F 4 (upd (F 4) ((g 21)).toNatClampNeg yc))) H := hP
        have hD : va_D A (mw cI a (upd g 21 x25) d (vf_upd F 4 (upd (F 4) ((g 21)).toNatClampNeg yc))) := hD
        refine lv_aload_n hx hb dX7_judge_110 rfl (lv_at hl 1 rfl) ?_
        refine va_get (D := D) (ci := 7) (v := .int x25) (C := RX7) (T := TX7) (N := 41) hx hb hts hi7 hown hK hP 0 rfl rfl 21 (by decide) (hts (.fieldLink RX7 112 "GuardedCallsModel" "count" "I") (by decide +kernel)) (fun _ h9 => h9) rfl dX7_judge_111 ?_
        refine lv_aload_n hx hb dX7_judge_114 rfl (lv_at hl 1 rfl) ?_
        refine va_get (D := D) (ci := 7) (v := .int ((g 23))) (C := RX7) (T := TX7) (N := 41) hx hb hts hi7 hown hK hP 0 rfl rfl 23 (by decide) (hts (.fieldLink RX7 130 "GuardedCallsModel" "trial" "Z") (by decide +kernel)) (fun _ h9 => h9) rfl dX7_judge_115 ?_
        refine lv_if_eq (tgt := 128) hx hb dX7_judge_118 (by decide) (fun c26 => ?_) (fun c26 => ?_)
        · refine lv_aload_n hx hb dX7_judge_128 rfl (lv_at hl 1 rfl) ?_
          refine va_get (D := D) (ci := 7) (v := .int ((g 12))) (C := RX7) (T := TX7) (N := 41) hx hb hts hi7 hown hK hP 0 rfl rfl 12 (by decide) (hts (.fieldLink RX7 26 "GuardedCallsModel" "least" "I") (by decide +kernel)) (fun _ h9 => h9) rfl dX7_judge_129 ?_
          refine lv_icmp_lt (tgt := 139) hx hb dX7_judge_132 (by decide) (fun c27 => ?_) (fun c27 => ?_)
          · refine lv_iconst (v := 0) hx hb dX7_judge_139 (by decide) ?_
            refine lv_istore_n (lv' := [(3, .int 0), (2, .int yc), (0, .ref ((a 0))), (1, .int p_b)]) hx hb dX7_judge_140 rfl hl (by decide) rfl (fun ls hl => ?_)
            refine lv_iload_n hx hb dX7_judge_141 rfl (lv_at hl 0 rfl) ?_
            refine lv_if_ne (tgt := 146) hx hb dX7_judge_142 (by decide) (fun c28 => ?_) (fun c28 => ?_)
            · exact absurd c28 (by decide)
            · exact W.vret hx hb hr (fun t ht hW => ⟨⟨(upd g 21 x25, d, vf_upd F 4 (upd (F 4) ((g 21)).toNatClampNeg yc)), rfl, ⟨trivial, ⟨hI.1, hI.2.1, hI.2.2.1, hI.2.2.2.1, hI.2.2.2.2.1, by show M6 (g 18) x25 (g 14) (g 11); exact judge_B hT c1 (by rw [e25]; exact (cnt_up (win_in hI.2.2.2.1 hI.2.2.2.2.2.1 hT (Or.inr c24))).1) (by rw [e25]; exact judge_le hT c1 hI.2.2.2.2.2.1 hI.2.2.2.1.1.2 c24), hI.2.2.2.2.2.2.1, hI.2.2.2.2.2.2.2.1, hI.2.2.2.2.2.2.2.2⟩, rfl, rfl, rfl, rfl, rfl⟩, by rw [ht]; exact hP, hD⟩, hS.F ht⟩) hS.2.2 dX7_judge_145
          · refine lv_iconst (v := 1) hx hb dX7_judge_135 (by decide) ?_
            refine lv_goto (tgt := 140) hx hb dX7_judge_136 (by decide) ?_
            refine lv_istore_n (lv' := [(3, .int 1), (2, .int yc), (0, .ref ((a 0))), (1, .int p_b)]) hx hb dX7_judge_140 rfl hl (by decide) rfl (fun ls hl => ?_)
            refine lv_iload_n hx hb dX7_judge_141 rfl (lv_at hl 0 rfl) ?_
            refine lv_if_ne (tgt := 146) hx hb dX7_judge_142 (by decide) (fun c29 => ?_) (fun c29 => ?_)
            · refine lv_aload_n hx hb dX7_judge_146 rfl (lv_at hl 2 rfl) ?_
              refine lv_iconst (v := 1) hx hb dX7_judge_147 (by decide) ?_
              refine gc_vd (As := [.int 1]) (rest := []) (w0 := mw cI a (upd g 21 x25) d (vf_upd F 4 (upd (F 4) ((g 21)).toNatClampNeg yc))) (wc := mw cI a (upd g 21 x25) d (vf_upd F 4 (upd (F 4) ((g 21)).toNatClampNeg yc))) (wr := []) (wf := wfM cI a) ⟨hx, hb, hml, hown, hts⟩ hKK hok hP hD hS hA [0, 1, 2, 3, 4, 5, 6] [] rfl rfl (by decide) (s_X7_rate l D cI a _ (upd g 21 x25) d (vf_upd F 4 (upd (F 4) ((g 21)).toNatClampNeg yc)) 1 (by show 0 ≤ (x25).toInt ∧ (x25).toInt ≤ 8; rw [e25]; exact cnt_up (win_in hI.2.2.2.1 hI.2.2.2.2.2.1 hT (Or.inr c24)))) (cwV 1 hts gX7_judge_X7_rate rfl rfl rfl (by decide +kernel) ⟨Nat.le_of_ble_eq_true rfl, Nat.le_of_ble_eq_true rfl⟩) (va_recv hK hP (ci := 7) (q0 := 0) rfl rfl) rfl hl.1 rfl (Nat.le_of_ble_eq_true rfl) dX7_judge_148 ⟨Nat.le_of_ble_eq_true rfl, Nat.le_of_ble_eq_true rfl⟩ (fun r30 u30 H locs hw30 hP hD hS => ?_)
              subst hw30
              have hP : va_P D vwCl (mw cI a (upd g 21 x25) d (vf_upd F 4 (upd (F 4) ((g 21)).toNatClampNeg yc))) H := hP
              have hD : va_D A (mw cI a (upd g 21 x25) d (vf_upd F 4 (upd (F 4) ((g 21)).toNatClampNeg yc))) := hD
              refine lv_aload_n hx hb dX7_judge_151 rfl (lv_at hl 2 rfl) ?_
              refine va_get (D := D) (ci := 7) (v := .double ((d 16))) (C := RX7) (T := TX7) (N := 41) hx hb hts hi7 hown hK hP 0 rfl rfl 16 (by decide) (hts (.fieldLink RX7 40 "GuardedCallsModel" "failures" "D") (by decide +kernel)) (fun _ h9 => h9) rfl dX7_judge_152 ?_
              refine lv_dcmp hx hb dX7_judge_155 ?_
              refine lv_if_ge (tgt := 172) hx hb dX7_judge_156 (by decide) (fun c31 => ?_) (fun c31 => ?_)
              · refine lv_iconst (v := 1) hx hb dX7_judge_172 (by decide) ?_
                refine lv_goto (tgt := 177) hx hb dX7_judge_173 (by decide) ?_
                refine lv_istore (lv' := [(4, .int 1), (3, .int 1), (2, .int yc), (0, .ref ((a 0))), (1, .int p_b)]) hx hb dX7_judge_177 hl (by decide) rfl (fun ls hl => ?_)
                refine lv_iload hx hb dX7_judge_179 (lv_at hl 0 rfl) ?_
                refine lv_if_eq (tgt := 205) hx hb dX7_judge_181 (by decide) (fun c32 => ?_) (fun c32 => ?_)
                · exact absurd c32 (by decide)
                · refine lv_aload_n hx hb dX7_judge_184 rfl (lv_at hl 3 rfl) ?_
                  refine lv_iconst (v := 1) hx hb dX7_judge_185 (by decide) ?_
                  refine gc_vv (As := [.int 1]) (rest := []) (w0 := mw cI a (upd g 21 x25) d (vf_upd F 4 (upd (F 4) ((g 21)).toNatClampNeg yc))) (wc := mw cI a (upd g 21 x25) d (vf_upd F 4 (upd (F 4) ((g 21)).toNatClampNeg yc))) (wr := []) (wf := wfM cI a) ⟨hx, hb, hml, hown, hts⟩ hKK hok hP hD hS hA [0, 1, 2, 3, 4, 5, 6] [] rfl rfl (by decide) (s_X7_become l D cI a _ (upd g 21 x25) d (vf_upd F 4 (upd (F 4) ((g 21)).toNatClampNeg yc)) 1) (cwV 1 hts gX7_judge_X7_become rfl rfl rfl (by decide +kernel) ⟨Nat.le_of_ble_eq_true rfl, Nat.le_of_ble_eq_true rfl⟩) (va_recv hK hP (ci := 7) (q0 := 0) rfl rfl) rfl hl.1 rfl (Nat.le_of_ble_eq_true rfl) dX7_judge_186 ⟨Nat.le_of_ble_eq_true rfl, Nat.le_of_ble_eq_true rfl⟩ (fun u33 H locs hw33 hP hD hS => ?_)
                  subst hw33
                  have hP : va_P D vwCl (mw cI a (upd (upd (upd (upd g 21 x25) 18 1) 21 0) 20 0) d (vf_upd F 4 (upd (F 4) ((g 21)).toNatClampNeg yc))) H := hP
                  have hD : va_D A (mw cI a (upd (upd (upd (upd g 21 x25) 18 1) 21 0) 20 0) d (vf_upd F 4 (upd (F 4) ((g 21)).toNatClampNeg yc))) := hD
                  have hI34 : MI (upd (upd (upd (upd g 21 x25) 18 1) 21 0) 20 0) d (vf_upd F 4 (upd (F 4) ((g 21)).toNatClampNeg yc)) := ⟨hI.1, hI.2.1, hI.2.2.1, hI.2.2.2.1, hI.2.2.2.2.1, M6_zero hI.2.2.2.1.2.1 hI.2.2.2.1.1.1, hI.2.2.2.2.2.2.1, hI.2.2.2.2.2.2.2.1, hI.2.2.2.2.2.2.2.2⟩
                  refine lv_aload_n hx hb dX7_judge_189 rfl (lv_at hl 3 rfl) ?_
                  refine lv_aload_n hx hb dX7_judge_190 rfl (lv_at hl 3 rfl) ?_
                  refine va_get (D := D) (ci := 7) (v := .int ((g 1))) (C := RX7) (T := TX7) (N := 41) hx hb hts hi7 hown hK hP 0 rfl rfl 1 (by decide) (hts (.fieldLink RX7 102 "GuardedCallsModel" "clock" "I") (by decide +kernel)) (fun _ h9 => h9) rfl dX7_judge_191 ?_
                  refine va_put (D := D) (ci := 7) (v := .int ((g 1))) (ty := .int) (C := RX7) (T := TX7) (N := 41) hx hb hts hi7 tyX7 tyX7_ok nmX7 hown hK hP hD hS 0 rfl rfl 19 (by decide) (hts (.fieldLink RX7 124 "GuardedCallsModel" "opened" "I") (by decide +kernel)) (fun _ h9 => h9) rfl (by decide +kernel) rfl rfl (Nat.le_of_ble_eq_true rfl) dX7_judge_194 (fun H locs hP hD hS => ?_)
                  have hP : va_P D vwCl (mw cI a (upd (upd (upd (upd (upd g 21 x25) 18 1) 21 0) 20 0) 19 ((g 1))) d (vf_upd F 4 (upd (F 4) ((g 21)).toNatClampNeg yc))) H := hP
                  have hD : va_D A (mw cI a (upd (upd (upd (upd (upd g 21 x25) 18 1) 21 0) 20 0) 19 ((g 1))) d (vf_upd F 4 (upd (F 4) ((g 21)).toNatClampNeg yc))) := hD
                  refine lv_aload_n hx hb dX7_judge_197 rfl (lv_at hl 3 rfl) ?_
                  refine lv_iconst (v := 2) hx hb dX7_judge_198 (by decide) ?_
                  refine gc_vv (As := [.int 2]) (rest := []) (w0 := mw cI a (upd (upd (upd (upd (upd g 21 x25) 18 1) 21 0) 20 0) 19 ((g 1))) d (vf_upd F 4 (upd (F 4) ((g 21)).toNatClampNeg yc))) (wc := mw cI a (upd (upd (upd (upd (upd g 21 x25) 18 1) 21 0) 20 0) 19 ((g 1))) d (vf_upd F 4 (upd (F 4) ((g 21)).toNatClampNeg yc))) (wr := []) (wf := wfM cI a) ⟨hx, hb, hml, hown, hts⟩ hKK hok hP hD hS hA [0, 1, 2, 3, 4, 5, 6] [] rfl rfl (by decide) (s_X7_note l D cI a _ (upd (upd (upd (upd (upd g 21 x25) 18 1) 21 0) 20 0) 19 ((g 1))) d (vf_upd F 4 (upd (F 4) ((g 21)).toNatClampNeg yc)) 2 hI34) (cwV 1 hts gX7_judge_X7_note rfl rfl rfl (by decide +kernel) ⟨Nat.le_of_ble_eq_true rfl, Nat.le_of_ble_eq_true rfl⟩) (va_recv hK hP (ci := 7) (q0 := 0) rfl rfl) rfl hl.1 rfl (Nat.le_of_ble_eq_true rfl) dX7_judge_199 ⟨Nat.le_of_ble_eq_true rfl, Nat.le_of_ble_eq_true rfl⟩ (fun u35 H locs hw35 hP hD hS => ?_)
                  obtain ⟨g35, d35, F35⟩ := u35
                  have hP : va_P D vwCl (mw cI a g35 d35 F35) H := hP
                  have hD : va_D A (mw cI a g35 d35 F35) := hD
                  refine lv_goto (tgt := 222) hx hb dX7_judge_202 (by decide) ?_
                  exact W.vret hx hb hr (fun t ht hW => ⟨⟨(g35, d35, F35), rfl, ⟨trivial, hw35.2.1, hw35.2.2.1, hw35.2.2.2.1, hw35.2.2.2.2.1, hw35.2.2.2.2.2.1, hw35.2.2.2.2.2.2.2.2.2⟩, by rw [ht]; exact hP, hD⟩, hS.F ht⟩) hS.2.2 dX7_judge_222
              · refine lv_aload_n hx hb dX7_judge_159 rfl (lv_at hl 2 rfl) ?_
                refine lv_iconst (v := 2) hx hb dX7_judge_160 (by decide) ?_
                refine gc_vd (As := [.int 2]) (rest := []) (w0 := mw cI a (upd g 21 x25) d (vf_upd F 4 (upd (F 4) ((g 21)).toNatClampNeg yc))) (wc := mw cI a (upd g 21 x25) d (vf_upd F 4 (upd (F 4) ((g 21)).toNatClampNeg yc))) (wr := []) (wf := wfM cI a) ⟨hx, hb, hml, hown, hts⟩ hKK hok hP hD hS hA [0, 1, 2, 3, 4, 5, 6] [] rfl rfl (by decide) (s_X7_rate l D cI a _ (upd g 21 x25) d (vf_upd F 4 (upd (F 4) ((g 21)).toNatClampNeg yc)) 2 (by show 0 ≤ (x25).toInt ∧ (x25).toInt ≤ 8; rw [e25]; exact cnt_up (win_in hI.2.2.2.1 hI.2.2.2.2.2.1 hT (Or.inr c24)))) (cwV 1 hts gX7_judge_X7_rate rfl rfl rfl (by decide +kernel) ⟨Nat.le_of_ble_eq_true rfl, Nat.le_of_ble_eq_true rfl⟩) (va_recv hK hP (ci := 7) (q0 := 0) rfl rfl) rfl hl.1 rfl (Nat.le_of_ble_eq_true rfl) dX7_judge_161 ⟨Nat.le_of_ble_eq_true rfl, Nat.le_of_ble_eq_true rfl⟩ (fun r36 u36 H locs hw36 hP hD hS => ?_)
                subst hw36
                have hP : va_P D vwCl (mw cI a (upd g 21 x25) d (vf_upd F 4 (upd (F 4) ((g 21)).toNatClampNeg yc))) H := hP
                have hD : va_D A (mw cI a (upd g 21 x25) d (vf_upd F 4 (upd (F 4) ((g 21)).toNatClampNeg yc))) := hD
                refine lv_aload_n hx hb dX7_judge_164 rfl (lv_at hl 2 rfl) ?_
                refine va_get (D := D) (ci := 7) (v := .double ((d 17))) (C := RX7) (T := TX7) (N := 41) hx hb hts hi7 hown hK hP 0 rfl rfl 17 (by decide) (hts (.fieldLink RX7 46 "GuardedCallsModel" "slugs" "D") (by decide +kernel)) (fun _ h9 => h9) rfl dX7_judge_165 ?_
                refine lv_dcmp hx hb dX7_judge_168 ?_
                refine lv_if_lt (tgt := 176) hx hb dX7_judge_169 (by decide) (fun c37 => ?_) (fun c37 => ?_)
                · refine lv_iconst (v := 0) hx hb dX7_judge_176 (by decide) ?_
                  refine lv_istore (lv' := [(4, .int 0), (3, .int 1), (2, .int yc), (0, .ref ((a 0))), (1, .int p_b)]) hx hb dX7_judge_177 hl (by decide) rfl (fun ls hl => ?_)
                  refine lv_iload hx hb dX7_judge_179 (lv_at hl 0 rfl) ?_
                  refine lv_if_eq (tgt := 205) hx hb dX7_judge_181 (by decide) (fun c38 => ?_) (fun c38 => ?_)
                  · refine lv_aload_n hx hb dX7_judge_205 rfl (lv_at hl 3 rfl) ?_
                    refine va_get (D := D) (ci := 7) (v := .int ((g 23))) (C := RX7) (T := TX7) (N := 41) hx hb hts hi7 hown hK hP 0 rfl rfl 23 (by decide) (hts (.fieldLink RX7 130 "GuardedCallsModel" "trial" "Z") (by decide +kernel)) (fun _ h9 => h9) rfl dX7_judge_206 ?_
                    refine lv_if_eq (tgt := 222) hx hb dX7_judge_209 (by decide) (fun c39 => ?_) (fun c39 => ?_)
                    · exact W.vret hx hb hr (fun t ht hW => ⟨⟨(upd g 21 x25, d, vf_upd F 4 (upd (F 4) ((g 21)).toNatClampNeg yc)), rfl, ⟨trivial, ⟨hI.1, hI.2.1, hI.2.2.1, hI.2.2.2.1, hI.2.2.2.2.1, by show M6 (g 18) x25 (g 14) (g 11); exact judge_B hT c1 (by rw [e25]; exact (cnt_up (win_in hI.2.2.2.1 hI.2.2.2.2.2.1 hT (Or.inr c24))).1) (by rw [e25]; exact judge_le hT c1 hI.2.2.2.2.2.1 hI.2.2.2.1.1.2 c24), hI.2.2.2.2.2.2.1, hI.2.2.2.2.2.2.2.1, hI.2.2.2.2.2.2.2.2⟩, rfl, rfl, rfl, rfl, rfl⟩, by rw [ht]; exact hP, hD⟩, hS.F ht⟩) hS.2.2 dX7_judge_222
                    · exact absurd c1 c39
                  · exact absurd c38 (by decide)
                · refine lv_iconst (v := 1) hx hb dX7_judge_172 (by decide) ?_
                  refine lv_goto (tgt := 177) hx hb dX7_judge_173 (by decide) ?_
                  refine lv_istore (lv' := [(4, .int 1), (3, .int 1), (2, .int yc), (0, .ref ((a 0))), (1, .int p_b)]) hx hb dX7_judge_177 hl (by decide) rfl (fun ls hl => ?_)
                  refine lv_iload hx hb dX7_judge_179 (lv_at hl 0 rfl) ?_
                  refine lv_if_eq (tgt := 205) hx hb dX7_judge_181 (by decide) (fun c40 => ?_) (fun c40 => ?_)
                  · exact absurd c40 (by decide)
                  · refine lv_aload_n hx hb dX7_judge_184 rfl (lv_at hl 3 rfl) ?_
                    refine lv_iconst (v := 1) hx hb dX7_judge_185 (by decide) ?_
                    refine gc_vv (As := [.int 1]) (rest := []) (w0 := mw cI a (upd g 21 x25) d (vf_upd F 4 (upd (F 4) ((g 21)).toNatClampNeg yc))) (wc := mw cI a (upd g 21 x25) d (vf_upd F 4 (upd (F 4) ((g 21)).toNatClampNeg yc))) (wr := []) (wf := wfM cI a) ⟨hx, hb, hml, hown, hts⟩ hKK hok hP hD hS hA [0, 1, 2, 3, 4, 5, 6] [] rfl rfl (by decide) (s_X7_become l D cI a _ (upd g 21 x25) d (vf_upd F 4 (upd (F 4) ((g 21)).toNatClampNeg yc)) 1) (cwV 1 hts gX7_judge_X7_become rfl rfl rfl (by decide +kernel) ⟨Nat.le_of_ble_eq_true rfl, Nat.le_of_ble_eq_true rfl⟩) (va_recv hK hP (ci := 7) (q0 := 0) rfl rfl) rfl hl.1 rfl (Nat.le_of_ble_eq_true rfl) dX7_judge_186 ⟨Nat.le_of_ble_eq_true rfl, Nat.le_of_ble_eq_true rfl⟩ (fun u41 H locs hw41 hP hD hS => ?_)
                    subst hw41
                    have hP : va_P D vwCl (mw cI a (upd (upd (upd (upd g 21 x25) 18 1) 21 0) 20 0) d (vf_upd F 4 (upd (F 4) ((g 21)).toNatClampNeg yc))) H := hP
                    have hD : va_D A (mw cI a (upd (upd (upd (upd g 21 x25) 18 1) 21 0) 20 0) d (vf_upd F 4 (upd (F 4) ((g 21)).toNatClampNeg yc))) := hD
                    have hI42 : MI (upd (upd (upd (upd g 21 x25) 18 1) 21 0) 20 0) d (vf_upd F 4 (upd (F 4) ((g 21)).toNatClampNeg yc)) := ⟨hI.1, hI.2.1, hI.2.2.1, hI.2.2.2.1, hI.2.2.2.2.1, M6_zero hI.2.2.2.1.2.1 hI.2.2.2.1.1.1, hI.2.2.2.2.2.2.1, hI.2.2.2.2.2.2.2.1, hI.2.2.2.2.2.2.2.2⟩
                    refine lv_aload_n hx hb dX7_judge_189 rfl (lv_at hl 3 rfl) ?_
                    refine lv_aload_n hx hb dX7_judge_190 rfl (lv_at hl 3 rfl) ?_
                    refine va_get (D := D) (ci := 7) (v := .int ((g 1))) (C := RX7) (T := TX7) (N := 41) hx hb hts hi7 hown hK hP 0 rfl rfl 1 (by decide) (hts (.fieldLink RX7 102 "GuardedCallsModel" "clock" "I") (by decide +kernel)) (fun _ h9 => h9) rfl dX7_judge_191 ?_
                    refine va_put (D := D) (ci := 7) (v := .int ((g 1))) (ty := .int) (C := RX7) (T := TX7) (N := 41) hx hb hts hi7 tyX7 tyX7_ok nmX7 hown hK hP hD hS 0 rfl rfl 19 (by decide) (hts (.fieldLink RX7 124 "GuardedCallsModel" "opened" "I") (by decide +kernel)) (fun _ h9 => h9) rfl (by decide +kernel) rfl rfl (Nat.le_of_ble_eq_true rfl) dX7_judge_194 (fun H locs hP hD hS => ?_)
                    have hP : va_P D vwCl (mw cI a (upd (upd (upd (upd (upd g 21 x25) 18 1) 21 0) 20 0) 19 ((g 1))) d (vf_upd F 4 (upd (F 4) ((g 21)).toNatClampNeg yc))) H := hP
                    have hD : va_D A (mw cI a (upd (upd (upd (upd (upd g 21 x25) 18 1) 21 0) 20 0) 19 ((g 1))) d (vf_upd F 4 (upd (F 4) ((g 21)).toNatClampNeg yc))) := hD
                    refine lv_aload_n hx hb dX7_judge_197 rfl (lv_at hl 3 rfl) ?_
                    refine lv_iconst (v := 2) hx hb dX7_judge_198 (by decide) ?_
                    refine gc_vv (As := [.int 2]) (rest := []) (w0 := mw cI a (upd (upd (upd (upd (upd g 21 x25) 18 1) 21 0) 20 0) 19 ((g 1))) d (vf_upd F 4 (upd (F 4) ((g 21)).toNatClampNeg yc))) (wc := mw cI a (upd (upd (upd (upd (upd g 21 x25) 18 1) 21 0) 20 0) 19 ((g 1))) d (vf_upd F 4 (upd (F 4) ((g 21)).toNatClampNeg yc))) (wr := []) (wf := wfM cI a) ⟨hx, hb, hml, hown, hts⟩ hKK hok hP hD hS hA [0, 1, 2, 3, 4, 5, 6] [] rfl rfl (by decide) (s_X7_note l D cI a _ (upd (upd (upd (upd (upd g 21 x25) 18 1) 21 0) 20 0) 19 ((g 1))) d (vf_upd F 4 (upd (F 4) ((g 21)).toNatClampNeg yc)) 2 hI42) (cwV 1 hts gX7_judge_X7_note rfl rfl rfl (by decide +kernel) ⟨Nat.le_of_ble_eq_true rfl, Nat.le_of_ble_eq_true rfl⟩) (va_recv hK hP (ci := 7) (q0 := 0) rfl rfl) rfl hl.1 rfl (Nat.le_of_ble_eq_true rfl) dX7_judge_199 ⟨Nat.le_of_ble_eq_true rfl, Nat.le_of_ble_eq_true rfl⟩ (fun u43 H locs hw43 hP hD hS => ?_)
                    obtain ⟨g43, d43, F43⟩ := u43
                    have hP : va_P D vwCl (mw cI a g43 d43 F43) H := hP
                    have hD : va_D A (mw cI a g43 d43 F43) := hD
                    refine lv_goto (tgt := 222) hx hb dX7_judge_202 (by decide) ?_
                    exact W.vret hx hb hr (fun t ht hW => ⟨⟨(g43, d43, F43), rfl, ⟨trivial, hw43.2.1, hw43.2.2.1, hw43.2.2.2.1, hw43.2.2.2.2.1, hw43.2.2.2.2.2.1, hw43.2.2.2.2.2.2.2.2.2⟩, by rw [ht]; exact hP, hD⟩, hS.F ht⟩) hS.2.2 dX7_judge_222
            · exact absurd c29 (by decide)
        · exact absurd c1 c26
      · refine lv_aload_n hx hb dX7_judge_50 rfl (lv_at hl 1 rfl) ?_
        refine lv_aload_n hx hb dX7_judge_51 rfl (lv_at hl 1 rfl) ?_
        refine va_get (D := D) (ci := 7) (v := .int ((g 21))) (C := RX7) (T := TX7) (N := 41) hx hb hts hi7 hown hK hP 0 rfl rfl 21 (by decide) (hts (.fieldLink RX7 112 "GuardedCallsModel" "count" "I") (by decide +kernel)) (fun _ h9 => h9) rfl dX7_judge_52 ?_
        refine lv_iconst (v := 1) hx hb dX7_judge_55 (by decide) ?_
        refine lv_isub hx hb dX7_judge_56 ?_
        refine lv_topi (fun x44 e44 => ?_)
        refine va_put (D := D) (ci := 7) (v := .int x44) (ty := .int) (C := RX7) (T := TX7) (N := 41) hx hb hts hi7 tyX7 tyX7_ok nmX7 hown hK hP hD hS 0 rfl rfl 21 (by decide) (hts (.fieldLink RX7 112 "GuardedCallsModel" "count" "I") (by decide +kernel)) (fun _ h9 => h9) rfl (by decide +kernel) rfl rfl (Nat.le_of_ble_eq_true rfl) dX7_judge_57 (fun H locs hP hD hS => ?_)
        have hP : va_P D vwCl (mw cI a (upd g 21 x44) d F) H := hP
        have hD : va_D A (mw cI a (upd g 21 x44) d F) := hD
        have hI45 : MI (upd g 21 x44) d F := ⟨hI.1, hI.2.1, hI.2.2.1, hI.2.2.2.1, hI.2.2.2.2.1, by show M6 (g 18) x44 (g 14) (g 11); rw [e44]; exact judge_dec hT c1 c24 hI.2.2.2.1.1, hI.2.2.2.2.2.2.1, hI.2.2.2.2.2.2.2.1, hI.2.2.2.2.2.2.2.2⟩
        refine lv_iconst (v := 0) hx hb dX7_judge_60 (by decide) ?_
        refine lv_istore_n (lv' := [(3, .int 0), (2, .int yc), (0, .ref ((a 0))), (1, .int p_b)]) hx hb dX7_judge_61 rfl hl (by decide) rfl (fun ls hl => ?_)
        refine gl_loop (σ := Int32 × (Nat → Nat → Int32)) (μ := fun q => match q with | (y46_3, F46) => (9 - (y46_3).toInt).toNat) (Inv := fun q H locs ls => match q with | (y46_3, F46) => 0 ≤ (y46_3).toInt ∧ F46 0 = F 0 ∧ M9 (F46 1) ∧ va_P D vwCl (mw cI a (upd g 21 x44) d F46) H ∧ va_D A (mw cI a (upd g 21 x44) d F46) ∧ va_S A s.heap H locs ∧ lv_has ls 5 [(3, .int y46_3), (2, .int yc), (0, .ref ((a 0))), (1, .int p_b)]) (fun q H locs ls hv ih46 => ?_) (0, F) _ _ _ ⟨by decide, rfl, hI.2.2.2.2.2.2.2.2, hP, hD, hS, lv_sub hl [0, 1, 2, 3] rfl⟩
        obtain ⟨y46_3, F46⟩ := q
        obtain ⟨hq46_0, hq46_1, hq46_2, hP, hD, hS, hl⟩ := hv
        have hI47 : MI (upd g 21 x44) d F46 := MI_F hI45 hq46_1 hq46_2
        refine lv_iload_n hx hb dX7_judge_62 rfl (lv_at hl 0 rfl) ?_
        refine lv_aload_n hx hb dX7_judge_63 rfl (lv_at hl 2 rfl) ?_
        refine va_get (D := D) (ci := 7) (v := .int x44) (C := RX7) (T := TX7) (N := 41) hx hb hts hi7 hown hK hP 0 rfl rfl 21 (by decide) (hts (.fieldLink RX7 112 "GuardedCallsModel" "count" "I") (by decide +kernel)) (fun _ h9 => h9) rfl dX7_judge_64 ?_
        refine lv_icmp_ge (tgt := 90) hx hb dX7_judge_67 (by decide) (fun c48 => ?_) (fun c48 => ?_)
        · refine lv_aload_n hx hb dX7_judge_90 rfl (lv_at hl 2 rfl) ?_
          refine va_get (D := D) (ci := 7) (v := .ref ((a 5))) (C := RX7) (T := TX7) (N := 41) hx hb hts hi7 hown hK hP 0 rfl rfl 22 (by decide) (hts (.fieldLink RX7 49 "GuardedCallsModel" "window" "[I") (by decide +kernel)) (fun _ h9 => h9) rfl dX7_judge_91 ?_
          refine lv_aload_n hx hb dX7_judge_94 rfl (lv_at hl 2 rfl) ?_
          refine va_get (D := D) (ci := 7) (v := .int x44) (C := RX7) (T := TX7) (N := 41) hx hb hts hi7 hown hK hP 0 rfl rfl 21 (by decide) (hts (.fieldLink RX7 112 "GuardedCallsModel" "count" "I") (by decide +kernel)) (fun _ h9 => h9) rfl dX7_judge_95 ?_
          refine lv_iload_n hx hb dX7_judge_98 rfl (lv_at hl 1 rfl) ?_
          refine va_iast (D := D) hx hb hK hP hD hS 5 0 (f := (F46 4)) (n := 8) rfl rfl (by rw [e44]; exact vp_in_iff.mpr ⟨(dec7 c24 hI.2.2.2.1.1).1, by have := (dec7 c24 hI.2.2.2.1.1); omega⟩) dX7_judge_99 (fun H locs hP hD hS => ?_)
          have hP : va_P D vwCl (mw cI a (upd g 21 x44) d (vf_upd F46 4 (upd (F46 4) x44.toNatClampNeg yc))) H := hP
          have hD : va_D A (mw cI a (upd g 21 x44) d (vf_upd F46 4 (upd (F46 4) x44.toNatClampNeg yc))) := hD
          refine lv_aload_n hx hb dX7_judge_100 rfl (lv_at hl 2 rfl) ?_
          refine lv_aload_n hx hb dX7_judge_101 rfl (lv_at hl 2 rfl) ?_
          refine va_get (D := D) (ci := 7) (v := .int x44) (C := RX7) (T := TX7) (N := 41) hx hb hts hi7 hown hK hP 0 rfl rfl 21 (by decide) (hts (.fieldLink RX7 112 "GuardedCallsModel" "count" "I") (by decide +kernel)) (fun _ h9 => h9) rfl dX7_judge_102 ?_
          refine lv_iconst (v := 1) hx hb dX7_judge_105 (by decide) ?_
          refine lv_iadd hx hb dX7_judge_106 ?_
          refine lv_topi (fun x49 e49 => ?_)
          refine va_put (D := D) (ci := 7) (v := .int x49) (ty := .int) (C := RX7) (T := TX7) (N := 41) hx hb hts hi7 tyX7 tyX7_ok nmX7 hown hK hP hD hS 0 rfl rfl 21 (by decide) (hts (.fieldLink RX7 112 "GuardedCallsModel" "count" "I") (by decide +kernel)) (fun _ h9 => h9) rfl (by decide +kernel) rfl rfl (Nat.le_of_ble_eq_true rfl) dX7_judge_107 (fun H locs hP hD hS => ?_)
          have hP : va_P D vwCl (mw cI a (upd (upd g 21 x44) 21 x49) d (vf_upd F46 4 (upd (F46 4) x44.toNatClampNeg yc))) H := hP
          have hD : va_D A (mw cI a (upd (upd g 21 x44) 21 x49) d (vf_upd F46 4 (upd (F46 4) x44.toNatClampNeg yc))) := hD
          refine lv_aload_n hx hb dX7_judge_110 rfl (lv_at hl 2 rfl) ?_
          refine va_get (D := D) (ci := 7) (v := .int x49) (C := RX7) (T := TX7) (N := 41) hx hb hts hi7 hown hK hP 0 rfl rfl 21 (by decide) (hts (.fieldLink RX7 112 "GuardedCallsModel" "count" "I") (by decide +kernel)) (fun _ h9 => h9) rfl dX7_judge_111 ?_
          refine lv_aload_n hx hb dX7_judge_114 rfl (lv_at hl 2 rfl) ?_
          refine va_get (D := D) (ci := 7) (v := .int ((g 23))) (C := RX7) (T := TX7) (N := 41) hx hb hts hi7 hown hK hP 0 rfl rfl 23 (by decide) (hts (.fieldLink RX7 130 "GuardedCallsModel" "trial" "Z") (by decide +kernel)) (fun _ h9 => h9) rfl dX7_judge_115 ?_
          refine lv_if_eq (tgt := 128) hx hb dX7_judge_118 (by decide) (fun c50 => ?_) (fun c50 => ?_)
          · refine lv_aload_n hx hb dX7_judge_128 rfl (lv_at hl 2 rfl) ?_
            refine va_get (D := D) (ci := 7) (v := .int ((g 12))) (C := RX7) (T := TX7) (N := 41) hx hb hts hi7 hown hK hP 0 rfl rfl 12 (by decide) (hts (.fieldLink RX7 26 "GuardedCallsModel" "least" "I") (by decide +kernel)) (fun _ h9 => h9) rfl dX7_judge_129 ?_
            refine lv_icmp_lt (tgt := 139) hx hb dX7_judge_132 (by decide) (fun c51 => ?_) (fun c51 => ?_)
            · refine lv_iconst (v := 0) hx hb dX7_judge_139 (by decide) ?_
              refine lv_istore_n (lv' := [(3, .int 0), (2, .int yc), (0, .ref ((a 0))), (1, .int p_b)]) hx hb dX7_judge_140 rfl hl (by decide) rfl (fun ls hl => ?_)
              refine lv_iload_n hx hb dX7_judge_141 rfl (lv_at hl 0 rfl) ?_
              refine lv_if_ne (tgt := 146) hx hb dX7_judge_142 (by decide) (fun c52 => ?_) (fun c52 => ?_)
              · exact absurd c52 (by decide)
              · exact W.vret hx hb hr (fun t ht hW => ⟨⟨(upd (upd g 21 x44) 21 x49, d, vf_upd F46 4 (upd (F46 4) x44.toNatClampNeg yc)), rfl, ⟨trivial, ⟨hI47.1, hI47.2.1, hI47.2.2.1, hI47.2.2.2.1, hI47.2.2.2.2.1, by show M6 (g 18) x49 (g 14) (g 11); exact judge_B hT c1 (by rw [e49]; exact (cnt_up (by rw [e44]; exact vp_in_iff.mpr ⟨(dec7 c24 hI.2.2.2.1.1).1, by have := (dec7 c24 hI.2.2.2.1.1); omega⟩)).1) (by rw [e49, e44, i_inc8 (dec7 c24 hI.2.2.2.1.1).1 (by have := (dec7 c24 hI.2.2.2.1.1); omega)]; have := (dec7 c24 hI.2.2.2.1.1); omega), hI47.2.2.2.2.2.2.1, hI47.2.2.2.2.2.2.2.1, hI47.2.2.2.2.2.2.2.2⟩, rfl, rfl, hq46_1, rfl, rfl⟩, by rw [ht]; exact hP, hD⟩, hS.F ht⟩) hS.2.2 dX7_judge_145
            · refine lv_iconst (v := 1) hx hb dX7_judge_135 (by decide) ?_
              refine lv_goto (tgt := 140) hx hb dX7_judge_136 (by decide) ?_
              refine lv_istore_n (lv' := [(3, .int 1), (2, .int yc), (0, .ref ((a 0))), (1, .int p_b)]) hx hb dX7_judge_140 rfl hl (by decide) rfl (fun ls hl => ?_)
              refine lv_iload_n hx hb dX7_judge_141 rfl (lv_at hl 0 rfl) ?_
              refine lv_if_ne (tgt := 146) hx hb dX7_judge_142 (by decide) (fun c53 => ?_) (fun c53 => ?_)
              · refine lv_aload_n hx hb dX7_judge_146 rfl (lv_at hl 2 rfl) ?_
                refine lv_iconst (v := 1) hx hb dX7_judge_147 (by decide) ?_
                refine gc_vd (As := [.int 1]) (rest := []) (w0 := mw cI a (upd (upd g 21 x44) 21 x49) d (vf_upd F46 4 (upd (F46 4) x44.toNatClampNeg yc))) (wc := mw cI a (upd (upd g 21 x44) 21 x49) d (vf_upd F46 4 (upd (F46 4) x44.toNatClampNeg yc))) (wr := []) (wf := wfM cI a) ⟨hx, hb, hml, hown, hts⟩ hKK hok hP hD hS hA [0, 1, 2, 3, 4, 5, 6] [] rfl rfl (by decide) (s_X7_rate l D cI a _ (upd (upd g 21 x44) 21 x49) d (vf_upd F46 4 (upd (F46 4) x44.toNatClampNeg yc)) 1 (by show 0 ≤ (x49).toInt ∧ (x49).toInt ≤ 8; rw [e49]; exact cnt_up (by rw [e44]; exact vp_in_iff.mpr ⟨(dec7 c24 hI.2.2.2.1.1).1, by have := (dec7 c24 hI.2.2.2.1.1); omega⟩))) (cwV 1 hts gX7_judge_X7_rate rfl rfl rfl (by decide +kernel) ⟨Nat.le_of_ble_eq_true rfl, Nat.le_of_ble_eq_true rfl⟩) (va_recv hK hP (ci := 7) (q0 := 0) rfl rfl) rfl hl.1 rfl (Nat.le_of_ble_eq_true rfl) dX7_judge_148 ⟨Nat.le_of_ble_eq_true rfl, Nat.le_of_ble_eq_true rfl⟩ (fun r54 u54 H locs hw54 hP hD hS => ?_)
                subst hw54
                have hP : va_P D vwCl (mw cI a (upd (upd g 21 x44) 21 x49) d (vf_upd F46 4 (upd (F46 4) x44.toNatClampNeg yc))) H := hP
                have hD : va_D A (mw cI a (upd (upd g 21 x44) 21 x49) d (vf_upd F46 4 (upd (F46 4) x44.toNatClampNeg yc))) := hD
                refine lv_aload_n hx hb dX7_judge_151 rfl (lv_at hl 2 rfl) ?_
                refine va_get (D := D) (ci := 7) (v := .double ((d 16))) (C := RX7) (T := TX7) (N := 41) hx hb hts hi7 hown hK hP 0 rfl rfl 16 (by decide) (hts (.fieldLink RX7 40 "GuardedCallsModel" "failures" "D") (by decide +kernel)) (fun _ h9 => h9) rfl dX7_judge_152 ?_
                refine lv_dcmp hx hb dX7_judge_155 ?_
                refine lv_if_ge (tgt := 172) hx hb dX7_judge_156 (by decide) (fun c55 => ?_) (fun c55 => ?_)
                · refine lv_iconst (v := 1) hx hb dX7_judge_172 (by decide) ?_
                  refine lv_goto (tgt := 177) hx hb dX7_judge_173 (by decide) ?_
                  refine lv_istore (lv' := [(4, .int 1), (3, .int 1), (2, .int yc), (0, .ref ((a 0))), (1, .int p_b)]) hx hb dX7_judge_177 hl (by decide) rfl (fun ls hl => ?_)
                  refine lv_iload hx hb dX7_judge_179 (lv_at hl 0 rfl) ?_
                  refine lv_if_eq (tgt := 205) hx hb dX7_judge_181 (by decide) (fun c56 => ?_) (fun c56 => ?_)
                  · exact absurd c56 (by decide)
                  · refine lv_aload_n hx hb dX7_judge_184 rfl (lv_at hl 3 rfl) ?_
                    refine lv_iconst (v := 1) hx hb dX7_judge_185 (by decide) ?_
                    refine gc_vv (As := [.int 1]) (rest := []) (w0 := mw cI a (upd (upd g 21 x44) 21 x49) d (vf_upd F46 4 (upd (F46 4) x44.toNatClampNeg yc))) (wc := mw cI a (upd (upd g 21 x44) 21 x49) d (vf_upd F46 4 (upd (F46 4) x44.toNatClampNeg yc))) (wr := []) (wf := wfM cI a) ⟨hx, hb, hml, hown, hts⟩ hKK hok hP hD hS hA [0, 1, 2, 3, 4, 5, 6] [] rfl rfl (by decide) (s_X7_become l D cI a _ (upd (upd g 21 x44) 21 x49) d (vf_upd F46 4 (upd (F46 4) x44.toNatClampNeg yc)) 1) (cwV 1 hts gX7_judge_X7_become rfl rfl rfl (by decide +kernel) ⟨Nat.le_of_ble_eq_true rfl, Nat.le_of_ble_eq_true rfl⟩) (va_recv hK hP (ci := 7) (q0 := 0) rfl rfl) rfl hl.1 rfl (Nat.le_of_ble_eq_true rfl) dX7_judge_186 ⟨Nat.le_of_ble_eq_true rfl, Nat.le_of_ble_eq_true rfl⟩ (fun u57 H locs hw57 hP hD hS => ?_)
                    subst hw57
                    have hP : va_P D vwCl (mw cI a (upd (upd (upd (upd (upd g 21 x44) 21 x49) 18 1) 21 0) 20 0) d (vf_upd F46 4 (upd (F46 4) x44.toNatClampNeg yc))) H := hP
                    have hD : va_D A (mw cI a (upd (upd (upd (upd (upd g 21 x44) 21 x49) 18 1) 21 0) 20 0) d (vf_upd F46 4 (upd (F46 4) x44.toNatClampNeg yc))) := hD
                    have hI58 : MI (upd (upd (upd (upd (upd g 21 x44) 21 x49) 18 1) 21 0) 20 0) d (vf_upd F46 4 (upd (F46 4) x44.toNatClampNeg yc)) := ⟨hI47.1, hI47.2.1, hI47.2.2.1, hI47.2.2.2.1, hI47.2.2.2.2.1, M6_zero hI.2.2.2.1.2.1 hI.2.2.2.1.1.1, hI47.2.2.2.2.2.2.1, hI47.2.2.2.2.2.2.2.1, hI47.2.2.2.2.2.2.2.2⟩
                    refine lv_aload_n hx hb dX7_judge_189 rfl (lv_at hl 3 rfl) ?_
                    refine lv_aload_n hx hb dX7_judge_190 rfl (lv_at hl 3 rfl) ?_
                    refine va_get (D := D) (ci := 7) (v := .int ((g 1))) (C := RX7) (T := TX7) (N := 41) hx hb hts hi7 hown hK hP 0 rfl rfl 1 (by decide) (hts (.fieldLink RX7 102 "GuardedCallsModel" "clock" "I") (by decide +kernel)) (fun _ h9 => h9) rfl dX7_judge_191 ?_
                    refine va_put (D := D) (ci := 7) (v := .int ((g 1))) (ty := .int) (C := RX7) (T := TX7) (N := 41) hx hb hts hi7 tyX7 tyX7_ok nmX7 hown hK hP hD hS 0 rfl rfl 19 (by decide) (hts (.fieldLink RX7 124 "GuardedCallsModel" "opened" "I") (by decide +kernel)) (fun _ h9 => h9) rfl (by decide +kernel) rfl rfl (Nat.le_of_ble_eq_true rfl) dX7_judge_194 (fun H locs hP hD hS => ?_)
                    have hP : va_P D vwCl (mw cI a (upd (upd (upd (upd (upd (upd g 21 x44) 21 x49) 18 1) 21 0) 20 0) 19 ((g 1))) d (vf_upd F46 4 (upd (F46 4) x44.toNatClampNeg yc))) H := hP
                    have hD : va_D A (mw cI a (upd (upd (upd (upd (upd (upd g 21 x44) 21 x49) 18 1) 21 0) 20 0) 19 ((g 1))) d (vf_upd F46 4 (upd (F46 4) x44.toNatClampNeg yc))) := hD
                    refine lv_aload_n hx hb dX7_judge_197 rfl (lv_at hl 3 rfl) ?_
                    refine lv_iconst (v := 2) hx hb dX7_judge_198 (by decide) ?_
                    refine gc_vv (As := [.int 2]) (rest := []) (w0 := mw cI a (upd (upd (upd (upd (upd (upd g 21 x44) 21 x49) 18 1) 21 0) 20 0) 19 ((g 1))) d (vf_upd F46 4 (upd (F46 4) x44.toNatClampNeg yc))) (wc := mw cI a (upd (upd (upd (upd (upd (upd g 21 x44) 21 x49) 18 1) 21 0) 20 0) 19 ((g 1))) d (vf_upd F46 4 (upd (F46 4) x44.toNatClampNeg yc))) (wr := []) (wf := wfM cI a) ⟨hx, hb, hml, hown, hts⟩ hKK hok hP hD hS hA [0, 1, 2, 3, 4, 5, 6] [] rfl rfl (by decide) (s_X7_note l D cI a _ (upd (upd (upd (upd (upd (upd g 21 x44) 21 x49) 18 1) 21 0) 20 0) 19 ((g 1))) d (vf_upd F46 4 (upd (F46 4) x44.toNatClampNeg yc)) 2 hI58) (cwV 1 hts gX7_judge_X7_note rfl rfl rfl (by decide +kernel) ⟨Nat.le_of_ble_eq_true rfl, Nat.le_of_ble_eq_true rfl⟩) (va_recv hK hP (ci := 7) (q0 := 0) rfl rfl) rfl hl.1 rfl (Nat.le_of_ble_eq_true rfl) dX7_judge_199 ⟨Nat.le_of_ble_eq_true rfl, Nat.le_of_ble_eq_true rfl⟩ (fun u59 H locs hw59 hP hD hS => ?_)
                    obtain ⟨g59, d59, F59⟩ := u59
                    have hP : va_P D vwCl (mw cI a g59 d59 F59) H := hP
                    have hD : va_D A (mw cI a g59 d59 F59) := hD
                    refine lv_goto (tgt := 222) hx hb dX7_judge_202 (by decide) ?_
                    exact W.vret hx hb hr (fun t ht hW => ⟨⟨(g59, d59, F59), rfl, ⟨trivial, hw59.2.1, (hw59.2.2.1.trans rfl), (hw59.2.2.2.1.trans rfl), (hw59.2.2.2.2.1.trans hq46_1), (hw59.2.2.2.2.2.1.trans rfl), (hw59.2.2.2.2.2.2.2.2.2.trans rfl)⟩, by rw [ht]; exact hP, hD⟩, hS.F ht⟩) hS.2.2 dX7_judge_222
                · refine lv_aload_n hx hb dX7_judge_159 rfl (lv_at hl 2 rfl) ?_
                  refine lv_iconst (v := 2) hx hb dX7_judge_160 (by decide) ?_
                  refine gc_vd (As := [.int 2]) (rest := []) (w0 := mw cI a (upd (upd g 21 x44) 21 x49) d (vf_upd F46 4 (upd (F46 4) x44.toNatClampNeg yc))) (wc := mw cI a (upd (upd g 21 x44) 21 x49) d (vf_upd F46 4 (upd (F46 4) x44.toNatClampNeg yc))) (wr := []) (wf := wfM cI a) ⟨hx, hb, hml, hown, hts⟩ hKK hok hP hD hS hA [0, 1, 2, 3, 4, 5, 6] [] rfl rfl (by decide) (s_X7_rate l D cI a _ (upd (upd g 21 x44) 21 x49) d (vf_upd F46 4 (upd (F46 4) x44.toNatClampNeg yc)) 2 (by show 0 ≤ (x49).toInt ∧ (x49).toInt ≤ 8; rw [e49]; exact cnt_up (by rw [e44]; exact vp_in_iff.mpr ⟨(dec7 c24 hI.2.2.2.1.1).1, by have := (dec7 c24 hI.2.2.2.1.1); omega⟩))) (cwV 1 hts gX7_judge_X7_rate rfl rfl rfl (by decide +kernel) ⟨Nat.le_of_ble_eq_true rfl, Nat.le_of_ble_eq_true rfl⟩) (va_recv hK hP (ci := 7) (q0 := 0) rfl rfl) rfl hl.1 rfl (Nat.le_of_ble_eq_true rfl) dX7_judge_161 ⟨Nat.le_of_ble_eq_true rfl, Nat.le_of_ble_eq_true rfl⟩ (fun r60 u60 H locs hw60 hP hD hS => ?_)
                  subst hw60
                  have hP : va_P D vwCl (mw cI a (upd (upd g 21 x44) 21 x49) d (vf_upd F46 4 (upd (F46 4) x44.toNatClampNeg yc))) H := hP
                  have hD : va_D A (mw cI a (upd (upd g 21 x44) 21 x49) d (vf_upd F46 4 (upd (F46 4) x44.toNatClampNeg yc))) := hD
                  refine lv_aload_n hx hb dX7_judge_164 rfl (lv_at hl 2 rfl) ?_
                  refine va_get (D := D) (ci := 7) (v := .double ((d 17))) (C := RX7) (T := TX7) (N := 41) hx hb hts hi7 hown hK hP 0 rfl rfl 17 (by decide) (hts (.fieldLink RX7 46 "GuardedCallsModel" "slugs" "D") (by decide +kernel)) (fun _ h9 => h9) rfl dX7_judge_165 ?_
                  refine lv_dcmp hx hb dX7_judge_168 ?_
                  refine lv_if_lt (tgt := 176) hx hb dX7_judge_169 (by decide) (fun c61 => ?_) (fun c61 => ?_)
                  · refine lv_iconst (v := 0) hx hb dX7_judge_176 (by decide) ?_
                    refine lv_istore (lv' := [(4, .int 0), (3, .int 1), (2, .int yc), (0, .ref ((a 0))), (1, .int p_b)]) hx hb dX7_judge_177 hl (by decide) rfl (fun ls hl => ?_)
                    refine lv_iload hx hb dX7_judge_179 (lv_at hl 0 rfl) ?_
                    refine lv_if_eq (tgt := 205) hx hb dX7_judge_181 (by decide) (fun c62 => ?_) (fun c62 => ?_)
                    · refine lv_aload_n hx hb dX7_judge_205 rfl (lv_at hl 3 rfl) ?_
                      refine va_get (D := D) (ci := 7) (v := .int ((g 23))) (C := RX7) (T := TX7) (N := 41) hx hb hts hi7 hown hK hP 0 rfl rfl 23 (by decide) (hts (.fieldLink RX7 130 "GuardedCallsModel" "trial" "Z") (by decide +kernel)) (fun _ h9 => h9) rfl dX7_judge_206 ?_
                      refine lv_if_eq (tgt := 222) hx hb dX7_judge_209 (by decide) (fun c63 => ?_) (fun c63 => ?_)
                      · exact W.vret hx hb hr (fun t ht hW => ⟨⟨(upd (upd g 21 x44) 21 x49, d, vf_upd F46 4 (upd (F46 4) x44.toNatClampNeg yc)), rfl, ⟨trivial, ⟨hI47.1, hI47.2.1, hI47.2.2.1, hI47.2.2.2.1, hI47.2.2.2.2.1, by show M6 (g 18) x49 (g 14) (g 11); exact judge_B hT c1 (by rw [e49]; exact (cnt_up (by rw [e44]; exact vp_in_iff.mpr ⟨(dec7 c24 hI.2.2.2.1.1).1, by have := (dec7 c24 hI.2.2.2.1.1); omega⟩)).1) (by rw [e49, e44, i_inc8 (dec7 c24 hI.2.2.2.1.1).1 (by have := (dec7 c24 hI.2.2.2.1.1); omega)]; have := (dec7 c24 hI.2.2.2.1.1); omega), hI47.2.2.2.2.2.2.1, hI47.2.2.2.2.2.2.2.1, hI47.2.2.2.2.2.2.2.2⟩, rfl, rfl, hq46_1, rfl, rfl⟩, by rw [ht]; exact hP, hD⟩, hS.F ht⟩) hS.2.2 dX7_judge_222
                      · exact absurd c1 c63
                    · exact absurd c62 (by decide)
                  · refine lv_iconst (v := 1) hx hb dX7_judge_172 (by decide) ?_
                    refine lv_goto (tgt := 177) hx hb dX7_judge_173 (by decide) ?_
                    refine lv_istore (lv' := [(4, .int 1), (3, .int 1), (2, .int yc), (0, .ref ((a 0))), (1, .int p_b)]) hx hb dX7_judge_177 hl (by decide) rfl (fun ls hl => ?_)
                    refine lv_iload hx hb dX7_judge_179 (lv_at hl 0 rfl) ?_
                    refine lv_if_eq (tgt := 205) hx hb dX7_judge_181 (by decide) (fun c64 => ?_) (fun c64 => ?_)
                    · exact absurd c64 (by decide)
                    · refine lv_aload_n hx hb dX7_judge_184 rfl (lv_at hl 3 rfl) ?_
                      refine lv_iconst (v := 1) hx hb dX7_judge_185 (by decide) ?_
                      refine gc_vv (As := [.int 1]) (rest := []) (w0 := mw cI a (upd (upd g 21 x44) 21 x49) d (vf_upd F46 4 (upd (F46 4) x44.toNatClampNeg yc))) (wc := mw cI a (upd (upd g 21 x44) 21 x49) d (vf_upd F46 4 (upd (F46 4) x44.toNatClampNeg yc))) (wr := []) (wf := wfM cI a) ⟨hx, hb, hml, hown, hts⟩ hKK hok hP hD hS hA [0, 1, 2, 3, 4, 5, 6] [] rfl rfl (by decide) (s_X7_become l D cI a _ (upd (upd g 21 x44) 21 x49) d (vf_upd F46 4 (upd (F46 4) x44.toNatClampNeg yc)) 1) (cwV 1 hts gX7_judge_X7_become rfl rfl rfl (by decide +kernel) ⟨Nat.le_of_ble_eq_true rfl, Nat.le_of_ble_eq_true rfl⟩) (va_recv hK hP (ci := 7) (q0 := 0) rfl rfl) rfl hl.1 rfl (Nat.le_of_ble_eq_true rfl) dX7_judge_186 ⟨Nat.le_of_ble_eq_true rfl, Nat.le_of_ble_eq_true rfl⟩ (fun u65 H locs hw65 hP hD hS => ?_)
                      subst hw65
                      have hP : va_P D vwCl (mw cI a (upd (upd (upd (upd (upd g 21 x44) 21 x49) 18 1) 21 0) 20 0) d (vf_upd F46 4 (upd (F46 4) x44.toNatClampNeg yc))) H := hP
                      have hD : va_D A (mw cI a (upd (upd (upd (upd (upd g 21 x44) 21 x49) 18 1) 21 0) 20 0) d (vf_upd F46 4 (upd (F46 4) x44.toNatClampNeg yc))) := hD
                      have hI66 : MI (upd (upd (upd (upd (upd g 21 x44) 21 x49) 18 1) 21 0) 20 0) d (vf_upd F46 4 (upd (F46 4) x44.toNatClampNeg yc)) := ⟨hI47.1, hI47.2.1, hI47.2.2.1, hI47.2.2.2.1, hI47.2.2.2.2.1, M6_zero hI.2.2.2.1.2.1 hI.2.2.2.1.1.1, hI47.2.2.2.2.2.2.1, hI47.2.2.2.2.2.2.2.1, hI47.2.2.2.2.2.2.2.2⟩
                      refine lv_aload_n hx hb dX7_judge_189 rfl (lv_at hl 3 rfl) ?_
                      refine lv_aload_n hx hb dX7_judge_190 rfl (lv_at hl 3 rfl) ?_
                      refine va_get (D := D) (ci := 7) (v := .int ((g 1))) (C := RX7) (T := TX7) (N := 41) hx hb hts hi7 hown hK hP 0 rfl rfl 1 (by decide) (hts (.fieldLink RX7 102 "GuardedCallsModel" "clock" "I") (by decide +kernel)) (fun _ h9 => h9) rfl dX7_judge_191 ?_
                      refine va_put (D := D) (ci := 7) (v := .int ((g 1))) (ty := .int) (C := RX7) (T := TX7) (N := 41) hx hb hts hi7 tyX7 tyX7_ok nmX7 hown hK hP hD hS 0 rfl rfl 19 (by decide) (hts (.fieldLink RX7 124 "GuardedCallsModel" "opened" "I") (by decide +kernel)) (fun _ h9 => h9) rfl (by decide +kernel) rfl rfl (Nat.le_of_ble_eq_true rfl) dX7_judge_194 (fun H locs hP hD hS => ?_)
                      have hP : va_P D vwCl (mw cI a (upd (upd (upd (upd (upd (upd g 21 x44) 21 x49) 18 1) 21 0) 20 0) 19 ((g 1))) d (vf_upd F46 4 (upd (F46 4) x44.toNatClampNeg yc))) H := hP
                      have hD : va_D A (mw cI a (upd (upd (upd (upd (upd (upd g 21 x44) 21 x49) 18 1) 21 0) 20 0) 19 ((g 1))) d (vf_upd F46 4 (upd (F46 4) x44.toNatClampNeg yc))) := hD
                      refine lv_aload_n hx hb dX7_judge_197 rfl (lv_at hl 3 rfl) ?_
                      refine lv_iconst (v := 2) hx hb dX7_judge_198 (by decide) ?_
                      refine gc_vv (As := [.int 2]) (rest := []) (w0 := mw cI a (upd (upd (upd (upd (upd (upd g 21 x44) 21 x49) 18 1) 21 0) 20 0) 19 ((g 1))) d (vf_upd F46 4 (upd (F46 4) x44.toNatClampNeg yc))) (wc := mw cI a (upd (upd (upd (upd (upd (upd g 21 x44) 21 x49) 18 1) 21 0) 20 0) 19 ((g 1))) d (vf_upd F46 4 (upd (F46 4) x44.toNatClampNeg yc))) (wr := []) (wf := wfM cI a) ⟨hx, hb, hml, hown, hts⟩ hKK hok hP hD hS hA [0, 1, 2, 3, 4, 5, 6] [] rfl rfl (by decide) (s_X7_note l D cI a _ (upd (upd (upd (upd (upd (upd g 21 x44) 21 x49) 18 1) 21 0) 20 0) 19 ((g 1))) d (vf_upd F46 4 (upd (F46 4) x44.toNatClampNeg yc)) 2 hI66) (cwV 1 hts gX7_judge_X7_note rfl rfl rfl (by decide +kernel) ⟨Nat.le_of_ble_eq_true rfl, Nat.le_of_ble_eq_true rfl⟩) (va_recv hK hP (ci := 7) (q0 := 0) rfl rfl) rfl hl.1 rfl (Nat.le_of_ble_eq_true rfl) dX7_judge_199 ⟨Nat.le_of_ble_eq_true rfl, Nat.le_of_ble_eq_true rfl⟩ (fun u67 H locs hw67 hP hD hS => ?_)
                      obtain ⟨g67, d67, F67⟩ := u67
                      have hP : va_P D vwCl (mw cI a g67 d67 F67) H := hP
                      have hD : va_D A (mw cI a g67 d67 F67) := hD
                      refine lv_goto (tgt := 222) hx hb dX7_judge_202 (by decide) ?_
                      exact W.vret hx hb hr (fun t ht hW => ⟨⟨(g67, d67, F67), rfl, ⟨trivial, hw67.2.1, (hw67.2.2.1.trans rfl), (hw67.2.2.2.1.trans rfl), (hw67.2.2.2.2.1.trans hq46_1), (hw67.2.2.2.2.2.1.trans rfl), (hw67.2.2.2.2.2.2.2.2.2.trans rfl)⟩, by rw [ht]; exact hP, hD⟩, hS.F ht⟩) hS.2.2 dX7_judge_222
              · exact absurd c53 (by decide)
          · exact absurd c1 c50
        · refine lv_aload_n hx hb dX7_judge_70 rfl (lv_at hl 2 rfl) ?_
          refine va_get (D := D) (ci := 7) (v := .ref ((a 5))) (C := RX7) (T := TX7) (N := 41) hx hb hts hi7 hown hK hP 0 rfl rfl 22 (by decide) (hts (.fieldLink RX7 49 "GuardedCallsModel" "window" "[I") (by decide +kernel)) (fun _ h9 => h9) rfl dX7_judge_71 ?_
          refine lv_iload_n hx hb dX7_judge_74 rfl (lv_at hl 0 rfl) ?_
          refine lv_aload_n hx hb dX7_judge_75 rfl (lv_at hl 2 rfl) ?_
          refine va_get (D := D) (ci := 7) (v := .ref ((a 5))) (C := RX7) (T := TX7) (N := 41) hx hb hts hi7 hown hK hP 0 rfl rfl 22 (by decide) (hts (.fieldLink RX7 49 "GuardedCallsModel" "window" "[I") (by decide +kernel)) (fun _ h9 => h9) rfl dX7_judge_76 ?_
          refine lv_iload_n hx hb dX7_judge_79 rfl (lv_at hl 0 rfl) ?_
          refine lv_iconst (v := 1) hx hb dX7_judge_80 (by decide) ?_
          refine lv_iadd hx hb dX7_judge_81 ?_
          refine lv_topi (fun x68 e68 => ?_)
          refine va_iald (D := D) hx hb hK hP 5 0 (f := (F46 4)) (n := 8) rfl rfl (by rw [e68]; exact in8_succ hq46_0 c48 (by rw [e44]; exact (dec7 c24 hI.2.2.2.1.1).2.1)) dX7_judge_82 ?_
          refine lv_topi (fun x69 e69 => ?_)
          refine va_iast (D := D) hx hb hK hP hD hS 5 0 (f := (F46 4)) (n := 8) rfl rfl (in8_lt hq46_0 c48 (by rw [e44]; have := (dec7 c24 hI.2.2.2.1.1); omega)) dX7_judge_83 (fun H locs hP hD hS => ?_)
          have hP : va_P D vwCl (mw cI a (upd g 21 x44) d (vf_upd F46 4 (upd (F46 4) y46_3.toNatClampNeg x69))) H := hP
          have hD : va_D A (mw cI a (upd g 21 x44) d (vf_upd F46 4 (upd (F46 4) y46_3.toNatClampNeg x69))) := hD
          obtain ⟨x70, e70⟩ : ∃ y : Int32, y = y46_3 + 1 := ⟨_, rfl⟩
          refine lv_iinc (v := x70) (lv' := [(3, .int x70), (2, .int yc), (0, .ref ((a 0))), (1, .int p_b)]) hx hb dX7_judge_84 hl (k := 0) rfl (by rw [e70]; rfl) (by decide) rfl (fun ls hl => ?_)
          refine lv_goto (tgt := 62) hx hb dX7_judge_87 (by decide) ?_
          exact ih46 (x70, vf_upd F46 4 (upd (F46 4) y46_3.toNatClampNeg x69)) _ _ _ (by have h1 := i_inc c48; have h2 := i_lt c48; have h3 := (dec7 c24 hI.2.2.2.1.1); rw [← e44] at h3; show (9 - (x70).toInt).toNat < (9 - (y46_3).toInt).toNat; rw [e70, h1]; omega) ⟨by rw [e70, i_inc c48]; omega, hq46_1, hq46_2, hP, hD, hS, lv_sub hl [0, 1, 2, 3] rfl⟩
  · refine lv_iload_n hx hb dX7_judge_0 rfl (lv_at hl 1 rfl) ?_
    refine lv_if_le (tgt := 8) hx hb dX7_judge_1 (by decide) (fun c71 => ?_) (fun c71 => ?_)
    · refine lv_iconst (v := 0) hx hb dX7_judge_8 (by decide) ?_
      refine lv_aload_n hx hb dX7_judge_9 rfl (lv_at hl 0 rfl) ?_
      refine va_get (D := D) (ci := 7) (v := .int ((g 1))) (C := RX7) (T := TX7) (N := 41) hx hb hts hi7 hown hK hP 0 rfl rfl 1 (by decide) (hts (.fieldLink RX7 102 "GuardedCallsModel" "clock" "I") (by decide +kernel)) (fun _ h9 => h9) rfl dX7_judge_10 ?_
      refine lv_aload_n hx hb dX7_judge_13 rfl (lv_at hl 0 rfl) ?_
      refine va_get (D := D) (ci := 7) (v := .int ((g 24))) (C := RX7) (T := TX7) (N := 41) hx hb hts hi7 hown hK hP 0 rfl rfl 24 (by decide) (hts (.fieldLink RX7 134 "GuardedCallsModel" "before" "I") (by decide +kernel)) (fun _ h9 => h9) rfl dX7_judge_14 ?_
      refine lv_isub hx hb dX7_judge_17 ?_
      refine lv_topi (fun x72 e72 => ?_)
      refine lv_aload_n hx hb dX7_judge_18 rfl (lv_at hl 0 rfl) ?_
      refine va_get (D := D) (ci := 7) (v := .int ((g 15))) (C := RX7) (T := TX7) (N := 41) hx hb hts hi7 hown hK hP 0 rfl rfl 15 (by decide) (hts (.fieldLink RX7 35 "GuardedCallsModel" "slow" "I") (by decide +kernel)) (fun _ h9 => h9) rfl dX7_judge_19 ?_
      refine lv_icmp_lt (tgt := 29) hx hb dX7_judge_22 (by decide) (fun c73 => ?_) (fun c73 => ?_)
      · refine lv_iconst (v := 0) hx hb dX7_judge_29 (by decide) ?_
        refine lv_iadd hx hb dX7_judge_30 ?_
        refine lv_topi (fun x74 e74 => ?_)
        obtain rfl : x74 = 0 := e74.trans (by decide)
        refine lv_istore_n (lv' := [(2, .int 0), (0, .ref ((a 0))), (1, .int p_b)]) hx hb dX7_judge_31 rfl hl (by decide) rfl (fun ls hl => ?_)
        exact kc32 0 _ _ _ ⟨hP, hD, hS, lv_sub hl [0, 1, 2] rfl⟩
      · refine lv_iconst (v := 2) hx hb dX7_judge_25 (by decide) ?_
        refine lv_goto (tgt := 30) hx hb dX7_judge_26 (by decide) ?_
        refine lv_iadd hx hb dX7_judge_30 ?_
        refine lv_topi (fun x75 e75 => ?_)
        obtain rfl : x75 = 2 := e75.trans (by decide)
        refine lv_istore_n (lv' := [(2, .int 2), (0, .ref ((a 0))), (1, .int p_b)]) hx hb dX7_judge_31 rfl hl (by decide) rfl (fun ls hl => ?_)
        exact kc32 2 _ _ _ ⟨hP, hD, hS, lv_sub hl [0, 1, 2] rfl⟩
    · refine lv_iconst (v := 1) hx hb dX7_judge_4 (by decide) ?_
      refine lv_goto (tgt := 9) hx hb dX7_judge_5 (by decide) ?_
      refine lv_aload_n hx hb dX7_judge_9 rfl (lv_at hl 0 rfl) ?_
      refine va_get (D := D) (ci := 7) (v := .int ((g 1))) (C := RX7) (T := TX7) (N := 41) hx hb hts hi7 hown hK hP 0 rfl rfl 1 (by decide) (hts (.fieldLink RX7 102 "GuardedCallsModel" "clock" "I") (by decide +kernel)) (fun _ h9 => h9) rfl dX7_judge_10 ?_
      refine lv_aload_n hx hb dX7_judge_13 rfl (lv_at hl 0 rfl) ?_
      refine va_get (D := D) (ci := 7) (v := .int ((g 24))) (C := RX7) (T := TX7) (N := 41) hx hb hts hi7 hown hK hP 0 rfl rfl 24 (by decide) (hts (.fieldLink RX7 134 "GuardedCallsModel" "before" "I") (by decide +kernel)) (fun _ h9 => h9) rfl dX7_judge_14 ?_
      refine lv_isub hx hb dX7_judge_17 ?_
      refine lv_topi (fun x76 e76 => ?_)
      refine lv_aload_n hx hb dX7_judge_18 rfl (lv_at hl 0 rfl) ?_
      refine va_get (D := D) (ci := 7) (v := .int ((g 15))) (C := RX7) (T := TX7) (N := 41) hx hb hts hi7 hown hK hP 0 rfl rfl 15 (by decide) (hts (.fieldLink RX7 35 "GuardedCallsModel" "slow" "I") (by decide +kernel)) (fun _ h9 => h9) rfl dX7_judge_19 ?_
      refine lv_icmp_lt (tgt := 29) hx hb dX7_judge_22 (by decide) (fun c77 => ?_) (fun c77 => ?_)
      · refine lv_iconst (v := 0) hx hb dX7_judge_29 (by decide) ?_
        refine lv_iadd hx hb dX7_judge_30 ?_
        refine lv_topi (fun x78 e78 => ?_)
        obtain rfl : x78 = 1 := e78.trans (by decide)
        refine lv_istore_n (lv' := [(2, .int 1), (0, .ref ((a 0))), (1, .int p_b)]) hx hb dX7_judge_31 rfl hl (by decide) rfl (fun ls hl => ?_)
        exact kc32 1 _ _ _ ⟨hP, hD, hS, lv_sub hl [0, 1, 2] rfl⟩
      · refine lv_iconst (v := 2) hx hb dX7_judge_25 (by decide) ?_
        refine lv_goto (tgt := 30) hx hb dX7_judge_26 (by decide) ?_
        refine lv_iadd hx hb dX7_judge_30 ?_
        refine lv_topi (fun x79 e79 => ?_)
        obtain rfl : x79 = 3 := e79.trans (by decide)
        refine lv_istore_n (lv' := [(2, .int 3), (0, .ref ((a 0))), (1, .int p_b)]) hx hb dX7_judge_31 rfl hl (by decide) rfl (fun ls hl => ?_)
        exact kc32 3 _ _ _ ⟨hP, hD, hS, lv_sub hl [0, 1, 2] rfl⟩
set_option maxHeartbeats 4000000 in
set_option maxRecDepth 100000 in
theorem s_X7_supply (l : Launch) (D : va_G) (cI : ClassId) (a : Nat → Nat) (sz : Nat) (g : Nat → Int32) (d : Nat → UInt64) (F : Nat → Nat → Int32) (hI : MI g d F) : Met l yX7_supply wsX7_supply ({ frames := 2, cells := 0, slots := 0, locals := 44 }) (gP (KM D cI) D (mw cI a g d F) sz [.ref (a 0)]) (va_Qi (fun (r : Int32) (u : SS) => (0 ≤ r.toInt) ∧ MP g F u) (gB D (wfM cI a) (va_A (mw cI a g d F) sz)) (va_A (mw cI a g d F) sz)) 0 0 (va_A (mw cI a g d F) sz) := by
  refine Met.ofW (cc := cX7_supply) (maxL := 4) (ret := (some .int)) (by decide) rfl ?_
  intro p e s m args below meth c s₁ B hml hv
  obtain ⟨rfl, hsz, hP, hD0, hKK⟩ := hv
  have hx := B.exec
  have hb := B.bytes
  have hr := B.returns
  have hts := atoms_spec (ws := wsX7_supply) B.pre
  have hown : s.vm.findClass RX7 = some m.cls := findClass_of_methodNamed B.named
  have hlocks := B.notSynchronized
  subst hsz
  have hK := hKK.1
  have hok := KM_ok D cI
  have hD := hD0.self (sz := s.heap.size)
  generalize hAe : va_A (mw cI a g d F) s.heap.size = A at hD ⊢
  have hi7 : ∀ w ∈ wsX70, w ∈ wsX7_supply := fun w h => List.mem_cons_of_mem _ (List.mem_append_right _ h)
  have hA : ∀ q : Nat, s.heap.size ≤ q → A q := fun q h => by rw [← hAe]; exact Or.inr h
  have hS : va_S A s.heap s.heap [] := va_S.rf
  have hP : va_P D vwCl (mw cI a g d F) s.heap := hP
  have hl := lv_entry ([.ref ((a 0))]) (n := 4) (Nat.le_of_ble_eq_true rfl)
  rw [lg_entry_eq]
  generalize (lg_sl ([.ref ((a 0))]) ++ List.replicate (4 - (lg_sl ([.ref ((a 0))])).length) Slot.unset).toArray = ls at hl ⊢
  have hl : lv_has ls 4 [(0, .ref ((a 0)))] := hl
  refine lv_aload_n hx hb dX7_supply_0 rfl (lv_at hl 0 rfl) ?_
  refine lv_aload_n hx hb dX7_supply_1 rfl (lv_at hl 0 rfl) ?_
  refine va_get (D := D) (ci := 7) (v := .int ((g 5))) (C := RX7) (T := TX7) (N := 41) hx hb hts hi7 hown hK hP 0 rfl rfl 5 (by decide) (hts (.fieldLink RX7 154 "GuardedCallsModel" "calls" "I") (by decide +kernel)) (fun _ h9 => h9) rfl dX7_supply_2 ?_
  refine lv_iconst (v := 1) hx hb dX7_supply_5 (by decide) ?_
  refine lv_iadd hx hb dX7_supply_6 ?_
  refine lv_topi (fun x1 e1 => ?_)
  refine va_put (D := D) (ci := 7) (v := .int x1) (ty := .int) (C := RX7) (T := TX7) (N := 41) hx hb hts hi7 tyX7 tyX7_ok nmX7 hown hK hP hD hS 0 rfl rfl 5 (by decide) (hts (.fieldLink RX7 154 "GuardedCallsModel" "calls" "I") (by decide +kernel)) (fun _ h9 => h9) rfl (by decide +kernel) rfl rfl (Nat.le_of_ble_eq_true rfl) dX7_supply_7 (fun H locs hP hD hS => ?_)
  have hP : va_P D vwCl (mw cI a (upd g 5 x1) d F) H := hP
  have hD : va_D A (mw cI a (upd g 5 x1) d F) := hD
  refine lv_aload_n hx hb dX7_supply_10 rfl (lv_at hl 0 rfl) ?_
  refine lv_iconst (v := 0) hx hb dX7_supply_11 (by decide) ?_
  refine va_put (D := D) (ci := 7) (v := .int 0) (ty := .int) (C := RX7) (T := TX7) (N := 41) hx hb hts hi7 tyX7 tyX7_ok nmX7 hown hK hP hD hS 0 rfl rfl 6 (by decide) (hts (.fieldLink RX7 157 "GuardedCallsModel" "answer" "I") (by decide +kernel)) (fun _ h9 => h9) rfl (by decide +kernel) rfl rfl (Nat.le_of_ble_eq_true rfl) dX7_supply_12 (fun H locs hP hD hS => ?_)
  have hP : va_P D vwCl (mw cI a (upd (upd g 5 x1) 6 0) d F) H := hP
  have hD : va_D A (mw cI a (upd (upd g 5 x1) 6 0) d F) := hD
  refine lv_aload_n hx hb dX7_supply_15 rfl (lv_at hl 0 rfl) ?_
  refine va_get (D := D) (ci := 7) (v := .int ((g 7))) (C := RX7) (T := TX7) (N := 41) hx hb hts hi7 hown hK hP 0 rfl rfl 7 (by decide) (hts (.fieldLink RX7 160 "GuardedCallsModel" "outcomes" "I") (by decide +kernel)) (fun _ h9 => h9) rfl dX7_supply_16 ?_
  refine lv_if_ne (tgt := 30) hx hb dX7_supply_19 (by decide) (fun c2 => ?_) (fun c2 => ?_)
  · refine lv_aload_n hx hb dX7_supply_30 rfl (lv_at hl 0 rfl) ?_
    refine va_get (D := D) (ci := 7) (v := .ref ((a 2))) (C := RX7) (T := TX7) (N := 41) hx hb hts hi7 hown hK hP 0 rfl rfl 8 (by decide) (hts (.fieldLink RX7 13 "GuardedCallsModel" "ways" "[I") (by decide +kernel)) (fun _ h9 => h9) rfl dX7_supply_31 ?_
    refine lv_iconst (v := 0) hx hb dX7_supply_34 (by decide) ?_
    refine va_iald (D := D) hx hb hK hP 2 0 (f := (F 1)) (n := 20) rfl rfl (by unfold vp_in; decide) dX7_supply_35 ?_
    refine lv_topi (fun x3 e3 => ?_)
    refine lv_istore_n (lv' := [(1, .int x3), (0, .ref ((a 0)))]) hx hb dX7_supply_36 rfl hl (by decide) rfl (fun ls hl => ?_)
    refine lv_aload_n hx hb dX7_supply_37 rfl (lv_at hl 1 rfl) ?_
    refine va_get (D := D) (ci := 7) (v := .ref ((a 3))) (C := RX7) (T := TX7) (N := 41) hx hb hts hi7 hown hK hP 0 rfl rfl 9 (by decide) (hts (.fieldLink RX7 16 "GuardedCallsModel" "latencies" "[I") (by decide +kernel)) (fun _ h9 => h9) rfl dX7_supply_38 ?_
    refine lv_iconst (v := 0) hx hb dX7_supply_41 (by decide) ?_
    refine va_iald (D := D) hx hb hK hP 3 0 (f := (F 2)) (n := 20) rfl rfl (by unfold vp_in; decide) dX7_supply_42 ?_
    refine lv_topi (fun x4 e4 => ?_)
    refine lv_istore_n (lv' := [(2, .int x4), (1, .int x3), (0, .ref ((a 0)))]) hx hb dX7_supply_43 rfl hl (by decide) rfl (fun ls hl => ?_)
    refine lv_aload_n hx hb dX7_supply_44 rfl (lv_at hl 2 rfl) ?_
    refine lv_aload_n hx hb dX7_supply_45 rfl (lv_at hl 2 rfl) ?_
    refine va_get (D := D) (ci := 7) (v := .ref ((a 4))) (C := RX7) (T := TX7) (N := 41) hx hb hts hi7 hown hK hP 0 rfl rfl 10 (by decide) (hts (.fieldLink RX7 19 "GuardedCallsModel" "values" "[I") (by decide +kernel)) (fun _ h9 => h9) rfl dX7_supply_46 ?_
    refine lv_iconst (v := 0) hx hb dX7_supply_49 (by decide) ?_
    refine va_iald (D := D) hx hb hK hP 4 0 (f := (F 3)) (n := 20) rfl rfl (by unfold vp_in; decide) dX7_supply_50 ?_
    refine lv_topi (fun x5 e5 => ?_)
    refine va_put (D := D) (ci := 7) (v := .int x5) (ty := .int) (C := RX7) (T := TX7) (N := 41) hx hb hts hi7 tyX7 tyX7_ok nmX7 hown hK hP hD hS 0 rfl rfl 6 (by decide) (hts (.fieldLink RX7 157 "GuardedCallsModel" "answer" "I") (by decide +kernel)) (fun _ h9 => h9) rfl (by decide +kernel) rfl rfl (Nat.le_of_ble_eq_true rfl) dX7_supply_51 (fun H locs hP hD hS => ?_)
    have hP : va_P D vwCl (mw cI a (upd (upd (upd g 5 x1) 6 0) 6 x5) d F) H := hP
    have hD : va_D A (mw cI a (upd (upd (upd g 5 x1) 6 0) 6 x5) d F) := hD
    refine lv_aload_n hx hb dX7_supply_54 rfl (lv_at hl 2 rfl) ?_
    refine lv_aload_n hx hb dX7_supply_55 rfl (lv_at hl 2 rfl) ?_
    refine va_get (D := D) (ci := 7) (v := .int ((g 7))) (C := RX7) (T := TX7) (N := 41) hx hb hts hi7 hown hK hP 0 rfl rfl 7 (by decide) (hts (.fieldLink RX7 160 "GuardedCallsModel" "outcomes" "I") (by decide +kernel)) (fun _ h9 => h9) rfl dX7_supply_56 ?_
    refine lv_iconst (v := 1) hx hb dX7_supply_59 (by decide) ?_
    refine lv_isub hx hb dX7_supply_60 ?_
    refine lv_topi (fun x6 e6 => ?_)
    refine va_put (D := D) (ci := 7) (v := .int x6) (ty := .int) (C := RX7) (T := TX7) (N := 41) hx hb hts hi7 tyX7 tyX7_ok nmX7 hown hK hP hD hS 0 rfl rfl 7 (by decide) (hts (.fieldLink RX7 160 "GuardedCallsModel" "outcomes" "I") (by decide +kernel)) (fun _ h9 => h9) rfl (by decide +kernel) rfl rfl (Nat.le_of_ble_eq_true rfl) dX7_supply_61 (fun H locs hP hD hS => ?_)
    have hP : va_P D vwCl (mw cI a (upd (upd (upd (upd g 5 x1) 6 0) 6 x5) 7 x6) d F) H := hP
    have hD : va_D A (mw cI a (upd (upd (upd (upd g 5 x1) 6 0) 6 x5) 7 x6) d F) := hD
    have hI7 : MI (upd (upd (upd (upd g 5 x1) 6 0) 6 x5) 7 x6) d F := ⟨hI.1, by show 0 ≤ (x6).toInt ∧ (x6).toInt ≤ 20; rw [e6]; exact wait_down hI.2.1 (by rw [Int32.le_iff_toInt_le]; exact pos_of hI.2.1.1 c2), hI.2.2.1, hI.2.2.2.1, hI.2.2.2.2.1, hI.2.2.2.2.2.1, hI.2.2.2.2.2.2.1, hI.2.2.2.2.2.2.2.1, hI.2.2.2.2.2.2.2.2⟩
    refine lv_iconst (v := 0) hx hb dX7_supply_64 (by decide) ?_
    refine lv_istore_n (lv' := [(3, .int 0), (2, .int x4), (1, .int x3), (0, .ref ((a 0)))]) hx hb dX7_supply_65 rfl hl (by decide) rfl (fun ls hl => ?_)
    refine gl_loop (σ := Int32 × (Nat → Nat → Int32)) (μ := fun q => match q with | (y8_3, F8) => (20 - (y8_3).toInt).toNat) (Inv := fun q H locs ls => match q with | (y8_3, F8) => 0 ≤ (y8_3).toInt ∧ F8 0 = F 0 ∧ M9 (F8 1) ∧ va_P D vwCl (mw cI a (upd (upd (upd (upd g 5 x1) 6 0) 6 x5) 7 x6) d F8) H ∧ va_D A (mw cI a (upd (upd (upd (upd g 5 x1) 6 0) 6 x5) 7 x6) d F8) ∧ va_S A s.heap H locs ∧ lv_has ls 4 [(3, .int y8_3), (2, .int x4), (1, .int x3), (0, .ref ((a 0)))]) (fun q H locs ls hv ih8 => ?_) (0, F) _ _ _ ⟨by decide, rfl, hI.2.2.2.2.2.2.2.2, hP, hD, hS, lv_sub hl [0, 1, 2, 3] rfl⟩
    obtain ⟨y8_3, F8⟩ := q
    obtain ⟨hq8_0, hq8_1, hq8_2, hP, hD, hS, hl⟩ := hv
    have hI9 : MI (upd (upd (upd (upd g 5 x1) 6 0) 6 x5) 7 x6) d F8 := MI_F hI7 hq8_1 hq8_2
    refine lv_iload_n hx hb dX7_supply_66 rfl (lv_at hl 0 rfl) ?_
    refine lv_aload_n hx hb dX7_supply_67 rfl (lv_at hl 3 rfl) ?_
    refine va_get (D := D) (ci := 7) (v := .int x6) (C := RX7) (T := TX7) (N := 41) hx hb hts hi7 hown hK hP 0 rfl rfl 7 (by decide) (hts (.fieldLink RX7 160 "GuardedCallsModel" "outcomes" "I") (by decide +kernel)) (fun _ h9 => h9) rfl dX7_supply_68 ?_
    refine lv_icmp_ge (tgt := 122) hx hb dX7_supply_71 (by decide) (fun c10 => ?_) (fun c10 => ?_)
    · refine lv_aload_n hx hb dX7_supply_122 rfl (lv_at hl 3 rfl) ?_
      refine lv_iload_n hx hb dX7_supply_123 rfl (lv_at hl 1 rfl) ?_
      refine gc_vi (As := [.int x4]) (rest := []) (w0 := mw cI a (upd (upd (upd (upd g 5 x1) 6 0) 6 x5) 7 x6) d F8) (wc := mw cI a (upd (upd (upd (upd g 5 x1) 6 0) 6 x5) 7 x6) d F8) (wr := []) (wf := wfM cI a) ⟨hx, hb, hml, hown, hts⟩ hKK hok hP hD hS hA [0, 1, 2, 3, 4, 5, 6] [] rfl rfl (by decide) (s_X7_lapse l D cI a _ (upd (upd (upd (upd g 5 x1) 6 0) 6 x5) 7 x6) d F8 x4 hI9) (cwV 1 hts gX7_supply_X7_lapse rfl rfl rfl (by decide +kernel) ⟨Nat.le_of_ble_eq_true rfl, Nat.le_of_ble_eq_true rfl⟩) (va_recv hK hP (ci := 7) (q0 := 0) rfl rfl) rfl hl.1 rfl (Nat.le_of_ble_eq_true rfl) dX7_supply_124 ⟨Nat.le_of_ble_eq_true rfl, Nat.le_of_ble_eq_true rfl⟩ (fun r11 u11 H locs hw11 hP hD hS => ?_)
      obtain ⟨g11, d11, F11⟩ := u11
      have hP : va_P D vwCl (mw cI a g11 d11 F11) H := hP
      have hD : va_D A (mw cI a g11 d11 F11) := hD
      refine lv_if_ne (tgt := 132) hx hb dX7_supply_127 (by decide) (fun c12 => ?_) (fun c12 => ?_)
      · refine lv_aload_n hx hb dX7_supply_132 rfl (lv_at hl 3 rfl) ?_
        refine lv_bipush (v := 51) hx hb dX7_supply_133 (by decide) ?_
        refine lv_iload_n hx hb dX7_supply_135 rfl (lv_at hl 2 rfl) ?_
        refine lv_iadd hx hb dX7_supply_136 ?_
        refine lv_topi (fun x13 e13 => ?_)
        refine gc_vv (As := [.int x13]) (rest := []) (w0 := mw cI a g11 d11 F11) (wc := mw cI a g11 d11 F11) (wr := []) (wf := wfM cI a) ⟨hx, hb, hml, hown, hts⟩ hKK hok hP hD hS hA [0, 1, 2, 3, 4, 5, 6] [] rfl rfl (by decide) (s_X7_note l D cI a _ g11 d11 F11 x13 hw11.2.1) (cwV 1 hts gX7_supply_X7_note rfl rfl rfl (by decide +kernel) ⟨Nat.le_of_ble_eq_true rfl, Nat.le_of_ble_eq_true rfl⟩) (va_recv hK hP (ci := 7) (q0 := 0) rfl rfl) rfl hl.1 rfl (Nat.le_of_ble_eq_true rfl) dX7_supply_137 ⟨Nat.le_of_ble_eq_true rfl, Nat.le_of_ble_eq_true rfl⟩ (fun u14 H locs hw14 hP hD hS => ?_)
        obtain ⟨g14, d14, F14⟩ := u14
        have hP : va_P D vwCl (mw cI a g14 d14 F14) H := hP
        have hD : va_D A (mw cI a g14 d14 F14) := hD
        refine lv_iload_n hx hb dX7_supply_140 rfl (lv_at hl 2 rfl) ?_
        refine lv_if_ne (tgt := 148) hx hb dX7_supply_141 (by decide) (fun c15 => ?_) (fun c15 => ?_)
        · refine lv_iconst (v := 4) hx hb dX7_supply_148 (by decide) ?_
          refine lv_iload_n hx hb dX7_supply_149 rfl (lv_at hl 2 rfl) ?_
          refine lv_iadd hx hb dX7_supply_150 ?_
          refine lv_topi (fun x16 e16 => ?_)
          exact W.iret (v := x16) hx hb hr (fun t ht hW => ⟨⟨_, (g14, d14, F14), rfl, ⟨by have h9 : 0 ≤ (x3).toInt ∧ (x3).toInt ≤ 2 := (by rw [e3]; exact hI.2.2.2.2.2.2.2.2 0 (by decide)); rw [e16, i_add (by decide) (by decide) h9.1 (by omega), show (4 : Int32).toInt = 4 from rfl]; omega, hw14.2.1, (hw14.2.2.1.trans (hw11.2.2.1.trans rfl)), (hw14.2.2.2.1.trans (hw11.2.2.2.1.trans rfl)), (hw14.2.2.2.2.1.trans (hw11.2.2.2.2.1.trans hq8_1)), (hw14.2.2.2.2.2.1.trans (hw11.2.2.2.2.2.1.trans rfl)), (hw14.2.2.2.2.2.2.1.trans (hw11.2.2.2.2.2.2.1.trans rfl)), (hw14.2.2.2.2.2.2.2.1.trans (hw11.2.2.2.2.2.2.2.1.trans rfl)), (hw14.2.2.2.2.2.2.2.2.1.trans (hw11.2.2.2.2.2.2.2.2.1.trans rfl)), (hw14.2.2.2.2.2.2.2.2.2.trans (hw11.2.2.2.2.2.2.2.2.2.trans rfl))⟩, by rw [ht]; exact hP, hD⟩, hS.F ht⟩) hS.2.2 dX7_supply_151
        · refine lv_iconst (v := 0) hx hb dX7_supply_144 (by decide) ?_
          refine lv_goto (tgt := 151) hx hb dX7_supply_145 (by decide) ?_
          exact W.iret (v := 0) hx hb hr (fun t ht hW => ⟨⟨_, (g14, d14, F14), rfl, ⟨by decide, hw14.2.1, (hw14.2.2.1.trans (hw11.2.2.1.trans rfl)), (hw14.2.2.2.1.trans (hw11.2.2.2.1.trans rfl)), (hw14.2.2.2.2.1.trans (hw11.2.2.2.2.1.trans hq8_1)), (hw14.2.2.2.2.2.1.trans (hw11.2.2.2.2.2.1.trans rfl)), (hw14.2.2.2.2.2.2.1.trans (hw11.2.2.2.2.2.2.1.trans rfl)), (hw14.2.2.2.2.2.2.2.1.trans (hw11.2.2.2.2.2.2.2.1.trans rfl)), (hw14.2.2.2.2.2.2.2.2.1.trans (hw11.2.2.2.2.2.2.2.2.1.trans rfl)), (hw14.2.2.2.2.2.2.2.2.2.trans (hw11.2.2.2.2.2.2.2.2.2.trans rfl))⟩, by rw [ht]; exact hP, hD⟩, hS.F ht⟩) hS.2.2 dX7_supply_151
      · refine lv_iconst (v := 4) hx hb dX7_supply_130 (by decide) ?_
        exact W.iret (v := 4) hx hb hr (fun t ht hW => ⟨⟨_, (g11, d11, F11), rfl, ⟨by decide, hw11.2.1, (hw11.2.2.1.trans rfl), (hw11.2.2.2.1.trans rfl), (hw11.2.2.2.2.1.trans hq8_1), (hw11.2.2.2.2.2.1.trans rfl), (hw11.2.2.2.2.2.2.1.trans rfl), (hw11.2.2.2.2.2.2.2.1.trans rfl), (hw11.2.2.2.2.2.2.2.2.1.trans rfl), (hw11.2.2.2.2.2.2.2.2.2.trans rfl)⟩, by rw [ht]; exact hP, hD⟩, hS.F ht⟩) hS.2.2 dX7_supply_131
    · refine lv_aload_n hx hb dX7_supply_74 rfl (lv_at hl 3 rfl) ?_
      refine va_get (D := D) (ci := 7) (v := .ref ((a 2))) (C := RX7) (T := TX7) (N := 41) hx hb hts hi7 hown hK hP 0 rfl rfl 8 (by decide) (hts (.fieldLink RX7 13 "GuardedCallsModel" "ways" "[I") (by decide +kernel)) (fun _ h9 => h9) rfl dX7_supply_75 ?_
      refine lv_iload_n hx hb dX7_supply_78 rfl (lv_at hl 0 rfl) ?_
      refine lv_aload_n hx hb dX7_supply_79 rfl (lv_at hl 3 rfl) ?_
      refine va_get (D := D) (ci := 7) (v := .ref ((a 2))) (C := RX7) (T := TX7) (N := 41) hx hb hts hi7 hown hK hP 0 rfl rfl 8 (by decide) (hts (.fieldLink RX7 13 "GuardedCallsModel" "ways" "[I") (by decide +kernel)) (fun _ h9 => h9) rfl dX7_supply_80 ?_
      refine lv_iload_n hx hb dX7_supply_83 rfl (lv_at hl 0 rfl) ?_
      refine lv_iconst (v := 1) hx hb dX7_supply_84 (by decide) ?_
      refine lv_iadd hx hb dX7_supply_85 ?_
      refine lv_topi (fun x17 e17 => ?_)
      refine va_iald (D := D) hx hb hK hP 2 0 (f := (F8 1)) (n := 20) rfl rfl (by rw [e17]; exact in20_succ hq8_0 c10 (by rw [e6, i_dec (pos_of hI.2.1.1 c2)]; have := hI.2.1; omega)) dX7_supply_86 ?_
      refine lv_topi (fun x18 e18 => ?_)
      refine va_iast (D := D) hx hb hK hP hD hS 2 0 (f := (F8 1)) (n := 20) rfl rfl (in20_lt hq8_0 c10 (by have := (show (x6).toInt ≤ 19 from (by rw [e6, i_dec (pos_of hI.2.1.1 c2)]; have := hI.2.1; omega)); omega)) dX7_supply_87 (fun H locs hP hD hS => ?_)
      have hP : va_P D vwCl (mw cI a (upd (upd (upd (upd g 5 x1) 6 0) 6 x5) 7 x6) d (vf_upd F8 1 (upd (F8 1) y8_3.toNatClampNeg x18))) H := hP
      have hD : va_D A (mw cI a (upd (upd (upd (upd g 5 x1) 6 0) 6 x5) 7 x6) d (vf_upd F8 1 (upd (F8 1) y8_3.toNatClampNeg x18))) := hD
      refine lv_aload_n hx hb dX7_supply_88 rfl (lv_at hl 3 rfl) ?_
      refine va_get (D := D) (ci := 7) (v := .ref ((a 3))) (C := RX7) (T := TX7) (N := 41) hx hb hts hi7 hown hK hP 0 rfl rfl 9 (by decide) (hts (.fieldLink RX7 16 "GuardedCallsModel" "latencies" "[I") (by decide +kernel)) (fun _ h9 => h9) rfl dX7_supply_89 ?_
      refine lv_iload_n hx hb dX7_supply_92 rfl (lv_at hl 0 rfl) ?_
      refine lv_aload_n hx hb dX7_supply_93 rfl (lv_at hl 3 rfl) ?_
      refine va_get (D := D) (ci := 7) (v := .ref ((a 3))) (C := RX7) (T := TX7) (N := 41) hx hb hts hi7 hown hK hP 0 rfl rfl 9 (by decide) (hts (.fieldLink RX7 16 "GuardedCallsModel" "latencies" "[I") (by decide +kernel)) (fun _ h9 => h9) rfl dX7_supply_94 ?_
      refine lv_iload_n hx hb dX7_supply_97 rfl (lv_at hl 0 rfl) ?_
      refine lv_iconst (v := 1) hx hb dX7_supply_98 (by decide) ?_
      refine lv_iadd hx hb dX7_supply_99 ?_
      refine lv_topi (fun x19 e19 => ?_)
      refine va_iald (D := D) hx hb hK hP 3 0 (f := (F8 2)) (n := 20) rfl rfl (by rw [e19]; exact in20_succ hq8_0 c10 (by rw [e6, i_dec (pos_of hI.2.1.1 c2)]; have := hI.2.1; omega)) dX7_supply_100 ?_
      refine lv_topi (fun x20 e20 => ?_)
      refine va_iast (D := D) hx hb hK hP hD hS 3 0 (f := (F8 2)) (n := 20) rfl rfl (in20_lt hq8_0 c10 (by have := (show (x6).toInt ≤ 19 from (by rw [e6, i_dec (pos_of hI.2.1.1 c2)]; have := hI.2.1; omega)); omega)) dX7_supply_101 (fun H locs hP hD hS => ?_)
      have hP : va_P D vwCl (mw cI a (upd (upd (upd (upd g 5 x1) 6 0) 6 x5) 7 x6) d (vf_upd (vf_upd F8 1 (upd (F8 1) y8_3.toNatClampNeg x18)) 2 (upd (F8 2) y8_3.toNatClampNeg x20))) H := hP
      have hD : va_D A (mw cI a (upd (upd (upd (upd g 5 x1) 6 0) 6 x5) 7 x6) d (vf_upd (vf_upd F8 1 (upd (F8 1) y8_3.toNatClampNeg x18)) 2 (upd (F8 2) y8_3.toNatClampNeg x20))) := hD
      refine lv_aload_n hx hb dX7_supply_102 rfl (lv_at hl 3 rfl) ?_
      refine va_get (D := D) (ci := 7) (v := .ref ((a 4))) (C := RX7) (T := TX7) (N := 41) hx hb hts hi7 hown hK hP 0 rfl rfl 10 (by decide) (hts (.fieldLink RX7 19 "GuardedCallsModel" "values" "[I") (by decide +kernel)) (fun _ h9 => h9) rfl dX7_supply_103 ?_
      refine lv_iload_n hx hb dX7_supply_106 rfl (lv_at hl 0 rfl) ?_
      refine lv_aload_n hx hb dX7_supply_107 rfl (lv_at hl 3 rfl) ?_
      refine va_get (D := D) (ci := 7) (v := .ref ((a 4))) (C := RX7) (T := TX7) (N := 41) hx hb hts hi7 hown hK hP 0 rfl rfl 10 (by decide) (hts (.fieldLink RX7 19 "GuardedCallsModel" "values" "[I") (by decide +kernel)) (fun _ h9 => h9) rfl dX7_supply_108 ?_
      refine lv_iload_n hx hb dX7_supply_111 rfl (lv_at hl 0 rfl) ?_
      refine lv_iconst (v := 1) hx hb dX7_supply_112 (by decide) ?_
      refine lv_iadd hx hb dX7_supply_113 ?_
      refine lv_topi (fun x21 e21 => ?_)
      refine va_iald (D := D) hx hb hK hP 4 0 (f := (F8 3)) (n := 20) rfl rfl (by rw [e21]; exact in20_succ hq8_0 c10 (by rw [e6, i_dec (pos_of hI.2.1.1 c2)]; have := hI.2.1; omega)) dX7_supply_114 ?_
      refine lv_topi (fun x22 e22 => ?_)
      refine va_iast (D := D) hx hb hK hP hD hS 4 0 (f := (F8 3)) (n := 20) rfl rfl (in20_lt hq8_0 c10 (by have := (show (x6).toInt ≤ 19 from (by rw [e6, i_dec (pos_of hI.2.1.1 c2)]; have := hI.2.1; omega)); omega)) dX7_supply_115 (fun H locs hP hD hS => ?_)
      have hP : va_P D vwCl (mw cI a (upd (upd (upd (upd g 5 x1) 6 0) 6 x5) 7 x6) d (vf_upd (vf_upd (vf_upd F8 1 (upd (F8 1) y8_3.toNatClampNeg x18)) 2 (upd (F8 2) y8_3.toNatClampNeg x20)) 3 (upd (F8 3) y8_3.toNatClampNeg x22))) H := hP
      have hD : va_D A (mw cI a (upd (upd (upd (upd g 5 x1) 6 0) 6 x5) 7 x6) d (vf_upd (vf_upd (vf_upd F8 1 (upd (F8 1) y8_3.toNatClampNeg x18)) 2 (upd (F8 2) y8_3.toNatClampNeg x20)) 3 (upd (F8 3) y8_3.toNatClampNeg x22))) := hD
      obtain ⟨x23, e23⟩ : ∃ y : Int32, y = y8_3 + 1 := ⟨_, rfl⟩
      refine lv_iinc (v := x23) (lv' := [(3, .int x23), (2, .int x4), (1, .int x3), (0, .ref ((a 0)))]) hx hb dX7_supply_116 hl (k := 0) rfl (by rw [e23]; rfl) (by decide) rfl (fun ls hl => ?_)
      refine lv_goto (tgt := 66) hx hb dX7_supply_119 (by decide) ?_
      exact ih8 (x23, vf_upd (vf_upd (vf_upd F8 1 (upd (F8 1) y8_3.toNatClampNeg x18)) 2 (upd (F8 2) y8_3.toNatClampNeg x20)) 3 (upd (F8 3) y8_3.toNatClampNeg x22)) _ _ _ (by have h1 := i_inc c10; have h2 := i_lt c10; have h3 := (show (x6).toInt ≤ 19 from (by rw [e6, i_dec (pos_of hI.2.1.1 c2)]; have := hI.2.1; omega)); show (20 - (x23).toInt).toNat < (20 - (y8_3).toInt).toNat; rw [e23, h1]; omega) ⟨by rw [e23, i_inc c10]; omega, hq8_1, M9_up hq8_2 (by rw [e18, e17]; exact M9_at hq8_2 (in20_succ hq8_0 c10 (by rw [e6, i_dec (pos_of hI.2.1.1 c2)]; have := hI.2.1; omega))), hP, hD, hS, lv_sub hl [0, 1, 2, 3] rfl⟩
  · refine lv_aload_n hx hb dX7_supply_22 rfl (lv_at hl 0 rfl) ?_
    refine lv_bipush (v := 51) hx hb dX7_supply_23 (by decide) ?_
    refine gc_vv (As := [.int 51]) (rest := []) (w0 := mw cI a (upd (upd g 5 x1) 6 0) d F) (wc := mw cI a (upd (upd g 5 x1) 6 0) d F) (wr := []) (wf := wfM cI a) ⟨hx, hb, hml, hown, hts⟩ hKK hok hP hD hS hA [0, 1, 2, 3, 4, 5, 6] [] rfl rfl (by decide) (s_X7_note l D cI a _ (upd (upd g 5 x1) 6 0) d F 51 hI) (cwV 1 hts gX7_supply_X7_note rfl rfl rfl (by decide +kernel) ⟨Nat.le_of_ble_eq_true rfl, Nat.le_of_ble_eq_true rfl⟩) (va_recv hK hP (ci := 7) (q0 := 0) rfl rfl) rfl hl.1 rfl (Nat.le_of_ble_eq_true rfl) dX7_supply_25 ⟨Nat.le_of_ble_eq_true rfl, Nat.le_of_ble_eq_true rfl⟩ (fun u24 H locs hw24 hP hD hS => ?_)
    obtain ⟨g24, d24, F24⟩ := u24
    have hP : va_P D vwCl (mw cI a g24 d24 F24) H := hP
    have hD : va_D A (mw cI a g24 d24 F24) := hD
    refine lv_iconst (v := 0) hx hb dX7_supply_28 (by decide) ?_
    exact W.iret (v := 0) hx hb hr (fun t ht hW => ⟨⟨_, (g24, d24, F24), rfl, ⟨by decide, hw24.2.1, hw24.2.2.1, hw24.2.2.2.1, hw24.2.2.2.2.1, hw24.2.2.2.2.2.1, hw24.2.2.2.2.2.2.1, hw24.2.2.2.2.2.2.2.1, hw24.2.2.2.2.2.2.2.2.1, hw24.2.2.2.2.2.2.2.2.2⟩, by rw [ht]; exact hP, hD⟩, hS.F ht⟩) hS.2.2 dX7_supply_29
set_option maxHeartbeats 4000000 in
set_option maxRecDepth 100000 in
theorem s_X7_enter (l : Launch) (D : va_G) (cI : ClassId) (a : Nat → Nat) (sz : Nat) (g : Nat → Int32) (d : Nat → UInt64) (F : Nat → Nat → Int32) (p_k : Int32) (hI : MI g d F) : Met l yX7_enter wsX7_enter ({ frames := 3, cells := 0, slots := 0, locals := 65 }) (gP (KM D cI) D (mw cI a g d F) sz [.ref (a 0), .int p_k]) (va_Qi (fun (r : Int32) (u : SS) => EP p_k g F r u) (gB D (wfM cI a) (va_A (mw cI a g d F) sz)) (va_A (mw cI a g d F) sz)) 0 0 (va_A (mw cI a g d F) sz) := by
  refine Met.ofW (cc := cX7_enter) (maxL := 2) (ret := (some .int)) (by decide) rfl ?_
  intro p e s m args below meth c s₁ B hml hv
  obtain ⟨rfl, hsz, hP, hD0, hKK⟩ := hv
  have hx := B.exec
  have hb := B.bytes
  have hr := B.returns
  have hts := atoms_spec (ws := wsX7_enter) B.pre
  have hown : s.vm.findClass RX7 = some m.cls := findClass_of_methodNamed B.named
  have hlocks := B.notSynchronized
  subst hsz
  have hK := hKK.1
  have hok := KM_ok D cI
  have hD := hD0.self (sz := s.heap.size)
  generalize hAe : va_A (mw cI a g d F) s.heap.size = A at hD ⊢
  have hi7 : ∀ w ∈ wsX70, w ∈ wsX7_enter := fun w h => List.mem_cons_of_mem _ (List.mem_append_right _ h)
  have hA : ∀ q : Nat, s.heap.size ≤ q → A q := fun q h => by rw [← hAe]; exact Or.inr h
  have hS : va_S A s.heap s.heap [] := va_S.rf
  have hP : va_P D vwCl (mw cI a g d F) s.heap := hP
  have hl := lv_entry ([.ref ((a 0)), .int p_k]) (n := 2) (Nat.le_of_ble_eq_true rfl)
  rw [lg_entry_eq]
  generalize (lg_sl ([.ref ((a 0)), .int p_k]) ++ List.replicate (2 - (lg_sl ([.ref ((a 0)), .int p_k])).length) Slot.unset).toArray = ls at hl ⊢
  have hl : lv_has ls 2 [(0, .ref ((a 0))), (1, .int p_k)] := hl
  refine lv_iload_n hx hb dX7_enter_0 rfl (lv_at hl 1 rfl) ?_
  refine lv_if_ne (tgt := 17) hx hb dX7_enter_1 (by decide) (fun c1 => ?_) (fun c1 => ?_)
  · refine lv_iload_n hx hb dX7_enter_17 rfl (lv_at hl 1 rfl) ?_
    refine lv_iconst (v := 1) hx hb dX7_enter_18 (by decide) ?_
    refine lv_icmp_ne (tgt := 56) hx hb dX7_enter_19 (by decide) (fun c2 => ?_) (fun c2 => ?_)
    · refine lv_iload_n hx hb dX7_enter_56 rfl (lv_at hl 1 rfl) ?_
      refine lv_iconst (v := 2) hx hb dX7_enter_57 (by decide) ?_
      refine lv_icmp_ne (tgt := 66) hx hb dX7_enter_58 (by decide) (fun c3 => ?_) (fun c3 => ?_)
      · refine lv_iload_n hx hb dX7_enter_66 rfl (lv_at hl 1 rfl) ?_
        refine lv_iconst (v := 3) hx hb dX7_enter_67 (by decide) ?_
        refine lv_icmp_ne (tgt := 79) hx hb dX7_enter_68 (by decide) (fun c4 => ?_) (fun c4 => ?_)
        · refine lv_aload_n hx hb dX7_enter_79 rfl (lv_at hl 0 rfl) ?_
          refine lv_aload_n hx hb dX7_enter_80 rfl (lv_at hl 0 rfl) ?_
          refine va_get (D := D) (ci := 7) (v := .int ((g 1))) (C := RX7) (T := TX7) (N := 41) hx hb hts hi7 hown hK hP 0 rfl rfl 1 (by decide) (hts (.fieldLink RX7 102 "GuardedCallsModel" "clock" "I") (by decide +kernel)) (fun _ h9 => h9) rfl dX7_enter_81 ?_
          refine lv_aload_n hx hb dX7_enter_84 rfl (lv_at hl 0 rfl) ?_
          refine va_get (D := D) (ci := 7) (v := .int ((g 38))) (C := RX7) (T := TX7) (N := 41) hx hb hts hi7 hown hK hP 0 rfl rfl 38 (by decide) (hts (.fieldLink RX7 86 "GuardedCallsModel" "span" "I") (by decide +kernel)) (fun _ h9 => h9) rfl dX7_enter_85 ?_
          refine lv_iadd hx hb dX7_enter_88 ?_
          refine lv_topi (fun x5 e5 => ?_)
          refine va_put (D := D) (ci := 7) (v := .int x5) (ty := .int) (C := RX7) (T := TX7) (N := 41) hx hb hts hi7 tyX7 tyX7_ok nmX7 hown hK hP hD hS 0 rfl rfl 2 (by decide) (hts (.fieldLink RX7 93 "GuardedCallsModel" "deadline" "I") (by decide +kernel)) (fun _ h9 => h9) rfl (by decide +kernel) rfl rfl (Nat.le_of_ble_eq_true rfl) dX7_enter_89 (fun H locs hP hD hS => ?_)
          have hP : va_P D vwCl (mw cI a (upd g 2 x5) d F) H := hP
          have hD : va_D A (mw cI a (upd g 2 x5) d F) := hD
          refine lv_iconst (v := 0) hx hb dX7_enter_92 (by decide) ?_
          exact W.iret (v := 0) hx hb hr (fun t ht hW => ⟨⟨_, (upd g 2 x5, d, F), rfl, ⟨by decide, hI, rfl, rfl, rfl, rfl, fun e => absurd e c1, fun _ => ⟨rfl, rfl⟩, fun _ => rfl, fun e => absurd e c4⟩, by rw [ht]; exact hP, hD⟩, hS.F ht⟩) hS.2.2 dX7_enter_93
        · refine lv_aload_n hx hb dX7_enter_71 rfl (lv_at hl 0 rfl) ?_
          refine lv_iconst (v := 1) hx hb dX7_enter_72 (by decide) ?_
          refine va_put (D := D) (ci := 7) (v := .int 1) (ty := .int) (C := RX7) (T := TX7) (N := 41) hx hb hts hi7 tyX7 tyX7_ok nmX7 hown hK hP hD hS 0 rfl rfl 37 (by decide) (hts (.fieldLink RX7 151 "GuardedCallsModel" "tried" "I") (by decide +kernel)) (fun _ h9 => h9) rfl (by decide +kernel) rfl rfl (Nat.le_of_ble_eq_true rfl) dX7_enter_73 (fun H locs hP hD hS => ?_)
          have hP : va_P D vwCl (mw cI a (upd g 37 1) d F) H := hP
          have hD : va_D A (mw cI a (upd g 37 1) d F) := hD
          refine lv_goto (tgt := 92) hx hb dX7_enter_76 (by decide) ?_
          refine lv_iconst (v := 0) hx hb dX7_enter_92 (by decide) ?_
          exact W.iret (v := 0) hx hb hr (fun t ht hW => ⟨⟨_, (upd g 37 1, d, F), rfl, ⟨by decide, ⟨hI.1, hI.2.1, hI.2.2.1, hI.2.2.2.1, hI.2.2.2.2.1, hI.2.2.2.2.2.1, hI.2.2.2.2.2.2.1, by show 0 ≤ (1 : Int32).toInt; decide, hI.2.2.2.2.2.2.2.2⟩, rfl, rfl, rfl, rfl, fun e => absurd e c1, fun _ => ⟨rfl, rfl⟩, fun e => absurd c4 e, fun _ => rfl⟩, by rw [ht]; exact hP, hD⟩, hS.F ht⟩) hS.2.2 dX7_enter_93
      · refine lv_aload_n hx hb dX7_enter_61 rfl (lv_at hl 0 rfl) ?_
        refine gc_vi (As := []) (rest := []) (w0 := mw cI a g d F) (wc := mw cI a g d F) (wr := []) (wf := wfM cI a) ⟨hx, hb, hml, hown, hts⟩ hKK hok hP hD hS hA [0, 1, 2, 3, 4, 5, 6] [] rfl rfl (by decide) (s_X7_limits l D cI a _ g d F hI) (cwV 0 hts gX7_enter_X7_limits rfl rfl rfl (by decide +kernel) ⟨Nat.le_of_ble_eq_true rfl, Nat.le_of_ble_eq_true rfl⟩) (va_recv hK hP (ci := 7) (q0 := 0) rfl rfl) rfl hl.1 rfl (Nat.le_of_ble_eq_true rfl) dX7_enter_62 ⟨Nat.le_of_ble_eq_true rfl, Nat.le_of_ble_eq_true rfl⟩ (fun r6 u6 H locs hw6 hP hD hS => ?_)
        obtain ⟨g6, d6, F6⟩ := u6
        have hP : va_P D vwCl (mw cI a g6 d6 F6) H := hP
        have hD : va_D A (mw cI a g6 d6 F6) := hD
        exact W.iret (v := r6) hx hb hr (fun t ht hW => ⟨⟨_, (g6, d6, F6), rfl, ⟨hw6.1, hw6.2.1, hw6.2.2.1, hw6.2.2.2.1, hw6.2.2.2.2.1, hw6.2.2.2.2.2.1, fun e => absurd e c1, fun _ => ⟨hw6.2.2.2.2.2.2.1, hw6.2.2.2.2.2.2.2.2.1⟩, fun _ => hw6.2.2.2.2.2.2.2.2.2, fun e => by rw [c3] at e; exact absurd e (by decide)⟩, by rw [ht]; exact hP, hD⟩, hS.F ht⟩) hS.2.2 dX7_enter_65
    · refine lv_aload_n hx hb dX7_enter_22 rfl (lv_at hl 0 rfl) ?_
      refine va_get (D := D) (ci := 7) (v := .int ((g 26))) (C := RX7) (T := TX7) (N := 41) hx hb hts hi7 hown hK hP 0 rfl rfl 26 (by decide) (hts (.fieldLink RX7 167 "GuardedCallsModel" "used" "I") (by decide +kernel)) (fun _ h9 => h9) rfl dX7_enter_23 ?_
      refine lv_aload_n hx hb dX7_enter_26 rfl (lv_at hl 0 rfl) ?_
      refine va_get (D := D) (ci := 7) (v := .int ((g 25))) (C := RX7) (T := TX7) (N := 41) hx hb hts hi7 hown hK hP 0 rfl rfl 25 (by decide) (hts (.fieldLink RX7 52 "GuardedCallsModel" "capacity" "I") (by decide +kernel)) (fun _ h9 => h9) rfl dX7_enter_27 ?_
      refine lv_icmp_lt (tgt := 39) hx hb dX7_enter_30 (by decide) (fun c7 => ?_) (fun c7 => ?_)
      · refine lv_aload_n hx hb dX7_enter_39 rfl (lv_at hl 0 rfl) ?_
        refine va_get (D := D) (ci := 7) (v := .int ((g 26))) (C := RX7) (T := TX7) (N := 41) hx hb hts hi7 hown hK hP 0 rfl rfl 26 (by decide) (hts (.fieldLink RX7 167 "GuardedCallsModel" "used" "I") (by decide +kernel)) (fun _ h9 => h9) rfl dX7_enter_40 ?_
        refine lv_aload_n hx hb dX7_enter_43 rfl (lv_at hl 0 rfl) ?_
        refine va_get (D := D) (ci := 7) (v := .int ((g 25))) (C := RX7) (T := TX7) (N := 41) hx hb hts hi7 hown hK hP 0 rfl rfl 25 (by decide) (hts (.fieldLink RX7 52 "GuardedCallsModel" "capacity" "I") (by decide +kernel)) (fun _ h9 => h9) rfl dX7_enter_44 ?_
        refine lv_icmp_lt (tgt := 54) hx hb dX7_enter_47 (by decide) (fun c8 => ?_) (fun c8 => ?_)
        · refine lv_iconst (v := 0) hx hb dX7_enter_54 (by decide) ?_
          exact W.iret (v := 0) hx hb hr (fun t ht hW => ⟨⟨_, (g, d, F), rfl, ⟨by decide, hI, rfl, rfl, rfl, rfl, fun e => absurd e c1, fun _ => ⟨rfl, rfl⟩, fun _ => rfl, fun e => by rw [c2] at e; exact absurd e (by decide)⟩, by rw [ht]; exact hP, hD⟩, hS.F ht⟩) hS.2.2 dX7_enter_55
        · refine lv_iconst (v := 2) hx hb dX7_enter_50 (by decide) ?_
          refine lv_goto (tgt := 55) hx hb dX7_enter_51 (by decide) ?_
          exact W.iret (v := 2) hx hb hr (fun t ht hW => ⟨⟨_, (g, d, F), rfl, ⟨by decide, hI, rfl, rfl, rfl, rfl, fun e => absurd e c1, fun _ => ⟨rfl, rfl⟩, fun _ => rfl, fun e => by rw [c2] at e; exact absurd e (by decide)⟩, by rw [ht]; exact hP, hD⟩, hS.F ht⟩) hS.2.2 dX7_enter_55
      · refine lv_aload_n hx hb dX7_enter_33 rfl (lv_at hl 0 rfl) ?_
        refine lv_bipush (v := 11) hx hb dX7_enter_34 (by decide) ?_
        refine gc_vv (As := [.int 11]) (rest := []) (w0 := mw cI a g d F) (wc := mw cI a g d F) (wr := []) (wf := wfM cI a) ⟨hx, hb, hml, hown, hts⟩ hKK hok hP hD hS hA [0, 1, 2, 3, 4, 5, 6] [] rfl rfl (by decide) (s_X7_note l D cI a _ g d F 11 hI) (cwV 1 hts gX7_enter_X7_note rfl rfl rfl (by decide +kernel) ⟨Nat.le_of_ble_eq_true rfl, Nat.le_of_ble_eq_true rfl⟩) (va_recv hK hP (ci := 7) (q0 := 0) rfl rfl) rfl hl.1 rfl (Nat.le_of_ble_eq_true rfl) dX7_enter_36 ⟨Nat.le_of_ble_eq_true rfl, Nat.le_of_ble_eq_true rfl⟩ (fun u9 H locs hw9 hP hD hS => ?_)
        obtain ⟨g9, d9, F9⟩ := u9
        have hP : va_P D vwCl (mw cI a g9 d9 F9) H := hP
        have hD : va_D A (mw cI a g9 d9 F9) := hD
        refine lv_aload_n hx hb dX7_enter_39 rfl (lv_at hl 0 rfl) ?_
        refine va_get (D := D) (ci := 7) (v := .int ((g9 26))) (C := RX7) (T := TX7) (N := 41) hx hb hts hi7 hown hK hP 0 rfl rfl 26 (by decide) (hts (.fieldLink RX7 167 "GuardedCallsModel" "used" "I") (by decide +kernel)) (fun _ h9 => h9) rfl dX7_enter_40 ?_
        refine lv_aload_n hx hb dX7_enter_43 rfl (lv_at hl 0 rfl) ?_
        refine va_get (D := D) (ci := 7) (v := .int ((g9 25))) (C := RX7) (T := TX7) (N := 41) hx hb hts hi7 hown hK hP 0 rfl rfl 25 (by decide) (hts (.fieldLink RX7 52 "GuardedCallsModel" "capacity" "I") (by decide +kernel)) (fun _ h9 => h9) rfl dX7_enter_44 ?_
        refine lv_icmp_lt (tgt := 54) hx hb dX7_enter_47 (by decide) (fun c10 => ?_) (fun c10 => ?_)
        · refine lv_iconst (v := 0) hx hb dX7_enter_54 (by decide) ?_
          exact W.iret (v := 0) hx hb hr (fun t ht hW => ⟨⟨_, (g9, d9, F9), rfl, ⟨by decide, hw9.2.1, hw9.2.2.1, hw9.2.2.2.1, hw9.2.2.2.2.1, hw9.2.2.2.2.2.1, fun e => absurd e c1, fun _ => ⟨hw9.2.2.2.2.2.2.1, hw9.2.2.2.2.2.2.2.2.1⟩, fun _ => hw9.2.2.2.2.2.2.2.2.2, fun e => by rw [c2] at e; exact absurd e (by decide)⟩, by rw [ht]; exact hP, hD⟩, hS.F ht⟩) hS.2.2 dX7_enter_55
        · refine lv_iconst (v := 2) hx hb dX7_enter_50 (by decide) ?_
          refine lv_goto (tgt := 55) hx hb dX7_enter_51 (by decide) ?_
          exact W.iret (v := 2) hx hb hr (fun t ht hW => ⟨⟨_, (g9, d9, F9), rfl, ⟨by decide, hw9.2.1, hw9.2.2.1, hw9.2.2.2.1, hw9.2.2.2.2.1, hw9.2.2.2.2.2.1, fun e => absurd e c1, fun _ => ⟨hw9.2.2.2.2.2.2.1, hw9.2.2.2.2.2.2.2.2.1⟩, fun _ => hw9.2.2.2.2.2.2.2.2.2, fun e => by rw [c2] at e; exact absurd e (by decide)⟩, by rw [ht]; exact hP, hD⟩, hS.F ht⟩) hS.2.2 dX7_enter_55
  · refine lv_aload_n hx hb dX7_enter_4 rfl (lv_at hl 0 rfl) ?_
    refine gc_vi (As := []) (rest := []) (w0 := mw cI a g d F) (wc := mw cI a g d F) (wr := []) (wf := wfM cI a) ⟨hx, hb, hml, hown, hts⟩ hKK hok hP hD hS hA [0, 1, 2, 3, 4, 5, 6] [] rfl rfl (by decide) (s_X7_admits l D cI a _ g d F hI) (cwV 0 hts gX7_enter_X7_admits rfl rfl rfl (by decide +kernel) ⟨Nat.le_of_ble_eq_true rfl, Nat.le_of_ble_eq_true rfl⟩) (va_recv hK hP (ci := 7) (q0 := 0) rfl rfl) rfl hl.1 rfl (Nat.le_of_ble_eq_true rfl) dX7_enter_5 ⟨Nat.le_of_ble_eq_true rfl, Nat.le_of_ble_eq_true rfl⟩ (fun r11 u11 H locs hw11 hP hD hS => ?_)
    obtain ⟨g11, d11, F11⟩ := u11
    have hP : va_P D vwCl (mw cI a g11 d11 F11) H := hP
    have hD : va_D A (mw cI a g11 d11 F11) := hD
    refine lv_if_eq (tgt := 15) hx hb dX7_enter_8 (by decide) (fun c12 => ?_) (fun c12 => ?_)
    · refine lv_iconst (v := 1) hx hb dX7_enter_15 (by decide) ?_
      exact W.iret (v := 1) hx hb hr (fun t ht hW => ⟨⟨_, (g11, d11, F11), rfl, ⟨by decide, hw11.2.1, hw11.2.2.1, hw11.2.2.2.1, hw11.2.2.2.2.1, hw11.2.2.2.2.2.1, fun _ e => absurd e (by decide), fun e => absurd c1 e, fun _ => hw11.2.2.2.2.2.2, fun e => by rw [c1] at e; exact absurd e (by decide)⟩, by rw [ht]; exact hP, hD⟩, hS.F ht⟩) hS.2.2 dX7_enter_16
    · refine lv_iconst (v := 0) hx hb dX7_enter_11 (by decide) ?_
      refine lv_goto (tgt := 16) hx hb dX7_enter_12 (by decide) ?_
      exact W.iret (v := 0) hx hb hr (fun t ht hW => ⟨⟨_, (g11, d11, F11), rfl, ⟨by decide, hw11.2.1, hw11.2.2.1, hw11.2.2.2.1, hw11.2.2.2.2.1, hw11.2.2.2.2.2.1, fun _ _ => (hw11.1.resolve_left c12).2, fun e => absurd c1 e, fun _ => hw11.2.2.2.2.2.2, fun e => by rw [c1] at e; exact absurd e (by decide)⟩, by rw [ht]; exact hP, hD⟩, hS.F ht⟩) hS.2.2 dX7_enter_16
