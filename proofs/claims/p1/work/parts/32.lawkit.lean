theorem n64_of {r : UInt64} (h : FP.Core.val64 r ≠ .nan) : vf_n64 r := by
  unfold vf_n64
  rw [UInt64.le_iff_toNat_le, UInt64.toNat_and, show (0x7fffffffffffffff : UInt64).toNat = 2 ^ 63 - 1 from rfl, Nat.and_two_pow_sub_one_eq_mod, show (0x7ff0000000000000 : UInt64).toNat = 9218868437227405312 from rfl]
  apply Decidable.byContradiction
  intro hn
  apply h
  show FP.Core.decode FP.Core.b64 r.toNat = .nan
  have hT : FP.Core.b64.tails = 4503599627370496 := rfl
  have hE : FP.Core.b64.exps = 2048 := rfl
  have h1 : FP.Core.fieldE FP.Core.b64 r.toNat = FP.Core.b64.exps - 1 := by
    unfold FP.Core.fieldE
    rw [hT, hE]
    have := r.toNat_lt
    omega
  have h2 : ¬ FP.Core.fieldT FP.Core.b64 r.toNat = 0 := by
    unfold FP.Core.fieldT
    rw [hT]
    have := r.toNat_lt
    omega
  unfold FP.Core.decode
  rw [if_pos h1, if_neg h2]
theorem settle_nn (f : FP.Core.Fmt) (s : Bool) (c : Nat) (q : Int) : FP.Core.settle f s c q ≠ .nan := by
  unfold FP.Core.settle FP.Core.bound
  repeat' split
  all_goals simp
theorem round_nn (f : FP.Core.Fmt) (s : Bool) (c : Nat) (q : Int) : FP.Core.round f (.fin s c q) ≠ .nan := by
  show FP.Core.roundRatio f s c 1 q ≠ .nan
  unfold FP.Core.roundRatio FP.Core.roundAt
  split
  · simp
  · exact settle_nn _ _ _ _
theorem n64_eighth (x : Int32) : vf_n64 (FP.dmul (FP.i2d x) 4593671619917905920) := by
  refine n64_of ?_
  have h := FP.Core.i2d_int x
  unfold FP.Core.DInt at h
  have e : FP.Core.val64 (FP.dmul (FP.i2d x) 4593671619917905920) = FP.Core.round FP.Core.b64 (FP.Core.exactProduct (FP.Core.val64 (FP.Core.i2d x)) (FP.Core.val64 4593671619917905920)) := FP.Core.val64_dmul _ _
  rw [e, show FP.Core.val64 4593671619917905920 = .fin false 4503599627370496 (-55) from by decide +kernel]
  cases hd : FP.Core.val64 (FP.Core.i2d x) with
  | nan => rw [hd] at h; exact absurd h (by simp [FP.Core.Whole])
  | inf s => rw [hd] at h; exact absurd h (by simp [FP.Core.Whole])
  | fin s c q => exact round_nn _ _ _ _
set_option maxHeartbeats 4000000 in
set_option maxRecDepth 100000 in
theorem t0_X7_thrown (l : Launch) (D : va_G) (cI : ClassId) (a : Nat → Nat) (sz : Nat) (g : Nat → Int32) (d : Nat → UInt64) (F : Nat → Nat → Int32) (h0 : g 0 = 0) : Met l yX7_thrown wsX7_thrown ({ frames := 0, cells := 0, slots := 0, locals := 0 }) (gP (KM D cI) D (mw cI a g d F) sz [.ref (a 0)]) (va_Qi (fun (r : Int32) (u : SS) => r = 0) (gB D (wfM cI a) (va_A (mw cI a g d F) sz)) (va_A (mw cI a g d F) sz)) 0 0 (va_A (mw cI a g d F) sz) := by
  refine Met.ofW (cc := cX7_thrown) (maxL := 1) (ret := (some .int)) (by decide) rfl ?_
  intro p e s m args below meth c s₁ B hml hv
  obtain ⟨rfl, hsz, hP, hD0, hKK⟩ := hv
  have hx := B.exec
  have hb := B.bytes
  have hr := B.returns
  have hts := atoms_spec (ws := wsX7_thrown) B.pre
  have hown : s.vm.findClass RX7 = some m.cls := findClass_of_methodNamed B.named
  have hlocks := B.notSynchronized
  subst hsz
  have hK := hKK.1
  have hok := KM_ok D cI
  have hD := hD0.self (sz := s.heap.size)
  generalize hAe : va_A (mw cI a g d F) s.heap.size = A at hD ⊢
  have hi7 : ∀ w ∈ wsX70, w ∈ wsX7_thrown := fun w h => List.mem_cons_of_mem _ (List.mem_append_right _ h)
  have hA : ∀ q : Nat, s.heap.size ≤ q → A q := fun q h => by rw [← hAe]; exact Or.inr h
  have hS : va_S A s.heap s.heap [] := va_S.rf
  have hP : va_P D vwCl (mw cI a g d F) s.heap := hP
  have hl := lv_entry ([.ref ((a 0))]) (n := 1) (Nat.le_of_ble_eq_true rfl)
  rw [lg_entry_eq]
  generalize (lg_sl ([.ref ((a 0))]) ++ List.replicate (1 - (lg_sl ([.ref ((a 0))])).length) Slot.unset).toArray = ls at hl ⊢
  have hl : lv_has ls 1 [(0, .ref ((a 0)))] := hl
  refine lv_aload_n hx hb dX7_thrown_0 rfl (lv_at hl 0 rfl) ?_
  refine va_get (D := D) (ci := 7) (v := .int ((g 0))) (C := RX7) (T := TX7) (N := 41) hx hb hts hi7 hown hK hP 0 rfl rfl 0 (by decide) (hts (.fieldLink RX7 96 "GuardedCallsModel" "thrown" "I") (by decide +kernel)) (fun _ h9 => h9) rfl dX7_thrown_1 ?_
  exact W.iret (v := ((g 0))) hx hb hr (fun t ht hW => ⟨⟨_, (g, d, F), rfl, h0, by rw [ht]; exact hP, hD⟩, hS.F ht⟩) hS.2.2 dX7_thrown_4
theorem t_X7_thrown (l : Launch) (D : va_G) (cI : ClassId) (a : Nat → Nat) (sz : Nat) (u : SS) (h0 : u.1 0 = 0) : Met l yX7_thrown wsX7_thrown ({ frames := 0, cells := 0, slots := 0, locals := 0 }) (gP (KM D cI) D (wfM cI a u) sz [.ref (a 0)]) (va_Qi (fun (r : Int32) (_ : SS) => r = 0) (gB D (wfM cI a) (va_A (wfM cI a u) sz)) (va_A (wfM cI a u) sz)) 0 0 (va_A (wfM cI a u) sz) := t0_X7_thrown l D cI a sz u.1 u.2.1 u.2.2 h0
def KL (D : va_G) (cI cL : ClassId) (U : State) : Prop := va_K D vwCl [(cI, .int), (cL, .long)] U ∧ NW U
theorem KL_ok (D : va_G) (cI cL : ClassId) : gOK (KL D cI cL) := ⟨fun s U hW h => ⟨va_K.moved hW.alike h.1, NW_moved hW h.2⟩, fun a U g mk h => ⟨va_K.moved (u := U) (U := U.calling g mk a) (Vm.Alike.refl U.vm) h.1, fun w hw => va_Nw.same (u := U) (U := U.calling g mk a) (nwl_tab w hw) rfl (h.2 w hw)⟩⟩
theorem KL_C {D : va_G} {cI cL : ClassId} {U : State} (h : KL D cI cL U) : KC D cI U := ⟨h.1.sub [0] rfl, h.2⟩
theorem KL_M {D : va_G} {cI cL : ClassId} {U : State} (h : KL D cI cL U) : KM D cI U := ⟨h.1.sub [0] rfl, trivial⟩
set_option maxHeartbeats 4000000 in
set_option maxRecDepth 100000 in
theorem i_L_call (l : Launch) (D : va_G) (cI cL : ClassId) (a : Nat → Nat) (qo : Nat) (fo : Nat → Int64) (sz : Nat) : Met l yL_call wsL_callp ({ frames := 5, cells := 0, slots := 0, locals := 106 }) (gP (KL D cI cL) D (cw cI a cgI cdI cFI ++ [(qo, .inl (cL, 1, .inr (.inl fo)))]) sz [.ref (a 0), .ref qo]) (va_Qi (fun (r : Int32) (u : SS × (Nat → Int64)) => r = 0 ∧ u.2 0 = 0) (gB D (fun (u : SS × (Nat → Int64)) => wfC cI a u.1 ++ [(qo, .inl (cL, 1, .inr (.inl u.2)))]) (va_A (cw cI a cgI cdI cFI ++ [(qo, .inl (cL, 1, .inr (.inl fo)))]) sz)) (va_A (cw cI a cgI cdI cFI ++ [(qo, .inl (cL, 1, .inr (.inl fo)))]) sz)) 0 0 (va_A (cw cI a cgI cdI cFI ++ [(qo, .inl (cL, 1, .inr (.inl fo)))]) sz) := by
  refine va_MetW (cc := cL_call) (maxL := 3) (ret := (some .int)) (by decide) rfl ?_
  intro p e s m args below meth c s₁ B hml hv
  obtain ⟨rfl, hsz, hP, hD0, hKK⟩ := hv
  have hx := B.exec
  have hb := B.bytes
  have hr := B.returns
  have hts := atoms_spec (ws := wsL_callp) B.pre
  have hown : s.vm.findClass RL = some m.cls := findClass_of_methodNamed B.named
  have hlocks := B.notSynchronized
  subst hsz
  have hK := hKK.1
  have hD := hD0.self (sz := s.heap.size)
  generalize hAe : va_A (cw cI a cgI cdI cFI ++ [(qo, .inl (cL, 1, .inr (.inl fo)))]) s.heap.size = A at hD ⊢
  have hA : ∀ q : Nat, s.heap.size ≤ q → A q := fun q h => by rw [← hAe]; exact Or.inr h
  have hS : va_S A s.heap s.heap [] := va_S.rf
  have hl := lv_entry ([.ref (a 0), .ref qo]) (n := 3) (Nat.le_of_ble_eq_true rfl)
  rw [lg_entry_eq]
  generalize (lg_sl ([.ref (a 0), .ref qo]) ++ List.replicate (3 - (lg_sl ([.ref (a 0), .ref qo])).length) Slot.unset).toArray = ls at hl ⊢
  have hl : lv_has ls 3 [(0, .ref (a 0)), (1, .ref qo)] := hl
  refine lv_aload_n hx hb dL_call_0 rfl (lv_at hl 1 rfl) ?_
  refine lv_iconst (v := 0) hx hb dL_call_1 (by decide) ?_
  refine lv_aload_n hx hb dL_call_2 rfl (lv_at hl 0 rfl) ?_
  refine gc_vi (As := []) (rest := [.int 0, .ref qo]) (w0 := cw cI a cgI cdI cFI ++ [(qo, .inl (cL, 1, .inr (.inl fo)))]) (wc := cw cI a cgI cdI cFI) (wr := [(qo, .inl (cL, 1, .inr (.inl fo)))]) (wf := wfC cI a) ⟨hx, hb, hml, hown, hts⟩ (KL_C hKK) (KC_ok D cI) hP hD hS hA [0, 1, 2, 3, 4, 5, 6, 7, 8, 9, 10, 11] [12] rfl rfl (by decide) (i_X6_call l D cI a _) (cwV 0 hts gL_callp_X6_callp rfl rfl rfl (by decide +kernel) ⟨Nat.le_of_ble_eq_true rfl, Nat.le_of_ble_eq_true rfl⟩) (va_recv hK hP (ci := 6) (q0 := 0) rfl rfl) rfl hl.1 rfl (Nat.le_of_ble_eq_true rfl) dL_call_3 ⟨Nat.le_of_ble_eq_true rfl, Nat.le_of_ble_eq_true rfl⟩ (fun r1 u1 H locs hw1 hP hD hS => ?_)
  subst hw1
  refine lv_i2l (v := 0) hx hb dL_call_6 (by decide) ?_
  refine va_last (D := D) hx hb hK hP hD hS 0 1 (f := fo) (n := 1) rfl rfl (by unfold vp_in; decide) dL_call_7 (fun H locs hP hD hS => ?_)
  refine lv_goto (tgt := 30) hx hb dL_call_8 (by decide) ?_
  refine lv_iconst (v := 0) hx hb dL_call_30 (by decide) ?_
  have hP9 := hP.sub (ws' := wfC cI a u1 ++ [(qo, .inl (cL, 1, .inr (.inl (vp_updL fo (0 : Int32).toNatClampNeg 0))))]) [1, 2, 3, 4, 5, 6, 7, 8, 9, 10, 11, 12, 0] rfl
  have hD9 := hD.sub (ws' := wfC cI a u1 ++ [(qo, .inl (cL, 1, .inr (.inl (vp_updL fo (0 : Int32).toNatClampNeg 0))))]) [1, 2, 3, 4, 5, 6, 7, 8, 9, 10, 11, 12, 0] (by decide) rfl
  exact W.iret (v := 0) hx hb hr (fun t ht hW => ⟨⟨_, (u1, vp_updL fo (0 : Int32).toNatClampNeg 0), rfl, ⟨rfl, rfl⟩, by rw [ht]; exact hP9, hD9⟩, hS.F ht⟩) hS.2.2 dL_call_31
theorem nwl_in : ∀ w ∈ nwl, w ∈ lw_tbl := by decide +kernel
