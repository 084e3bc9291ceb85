set_option maxHeartbeats 4000000 in
set_option maxRecDepth 100000 in
theorem c_X6_isWithin (l : Launch) (sz : Nat) (p_v : Int32) (p_lo : Int32) (p_hi : Int32) : Met l yX6_isWithin wsX6_isWithin ({ frames := 0, cells := 0, slots := 0, locals := 0 }) (va_Pc [.int p_v, .int p_lo, .int p_hi] (fun U => U.heap.size = sz)) (va_Qi (fun (r : Int32) (_ : Unit) => r = bw p_v p_lo p_hi) (fun _ _ => True) (va_A [] sz)) 0 0 (va_A [] sz) := by
  refine Met.ofW (cc := cX6_isWithin) (maxL := 3) (ret := (some .boolean)) (by decide) rfl ?_
  intro p e s m args below meth c s₁ B hml hv
  obtain ⟨rfl, hsz⟩ := hv
  have hx := B.exec
  have hb := B.bytes
  have hr := B.returns
  have hts := atoms_spec (ws := wsX6_isWithin) B.pre
  have hown : s.vm.findClass RX6 = some m.cls := findClass_of_methodNamed B.named
  have hlocks := B.notSynchronized
  subst hsz
  generalize hAe : va_A [] s.heap.size = A
  have hA : ∀ q : Nat, s.heap.size ≤ q → A q := fun q h => by rw [← hAe]; exact Or.inr h
  have hS : va_S A s.heap s.heap [] := va_S.rf
  have hl := lv_entry ([.int p_v, .int p_lo, .int p_hi]) (n := 3) (Nat.le_of_ble_eq_true rfl)
  rw [lg_entry_eq]
  generalize (lg_sl ([.int p_v, .int p_lo, .int p_hi]) ++ List.replicate (3 - (lg_sl ([.int p_v, .int p_lo, .int p_hi])).length) Slot.unset).toArray = ls at hl ⊢
  have hl : lv_has ls 3 [(0, .int p_v), (1, .int p_lo), (2, .int p_hi)] := hl
  refine lv_iload_n hx hb dX6_isWithin_0 rfl (lv_at hl 0 rfl) ?_
  refine lv_iload_n hx hb dX6_isWithin_1 rfl (lv_at hl 1 rfl) ?_
  refine lv_icmp_lt (tgt := 14) hx hb dX6_isWithin_2 (by decide) (fun c1 => ?_) (fun c1 => ?_)
  · refine lv_iconst (v := 0) hx hb dX6_isWithin_14 (by decide) ?_
    exact W.zret (v := 0) hx hb hr (rfl) (fun t ht hW => ⟨⟨_, (), rfl, by simp [bw, c1], trivial⟩, hS.F ht⟩) hS.2.2 dX6_isWithin_15
  · refine lv_iload_n hx hb dX6_isWithin_5 rfl (lv_at hl 0 rfl) ?_
    refine lv_iload_n hx hb dX6_isWithin_6 rfl (lv_at hl 2 rfl) ?_
    refine lv_icmp_gt (tgt := 14) hx hb dX6_isWithin_7 (by decide) (fun c2 => ?_) (fun c2 => ?_)
    · refine lv_iconst (v := 0) hx hb dX6_isWithin_14 (by decide) ?_
      exact W.zret (v := 0) hx hb hr (rfl) (fun t ht hW => ⟨⟨_, (), rfl, by simp [bw, c1, c2], trivial⟩, hS.F ht⟩) hS.2.2 dX6_isWithin_15
    · refine lv_iconst (v := 1) hx hb dX6_isWithin_10 (by decide) ?_
      refine lv_goto (tgt := 15) hx hb dX6_isWithin_11 (by decide) ?_
      exact W.zret (v := 1) hx hb hr (rfl) (fun t ht hW => ⟨⟨_, (), rfl, by simp [bw, c1, c2], trivial⟩, hS.F ht⟩) hS.2.2 dX6_isWithin_15
set_option maxHeartbeats 4000000 in
set_option maxRecDepth 100000 in
theorem c_X6_isBetween (l : Launch) (sz : Nat) (p_v : UInt64) (p_lo : UInt64) (p_hi : UInt64) : Met l yX6_isBetween wsX6_isBetween ({ frames := 0, cells := 0, slots := 0, locals := 0 }) (va_Pc [.double p_v, .double p_lo, .double p_hi] (fun U => U.heap.size = sz)) (va_Qi (fun (r : Int32) (_ : Unit) => r = bb p_v p_lo p_hi) (fun _ _ => True) (va_A [] sz)) 0 0 (va_A [] sz) := by
  refine Met.ofW (cc := cX6_isBetween) (maxL := 6) (ret := (some .boolean)) (by decide) rfl ?_
  intro p e s m args below meth c s₁ B hml hv
  obtain ⟨rfl, hsz⟩ := hv
  have hx := B.exec
  have hb := B.bytes
  have hr := B.returns
  have hts := atoms_spec (ws := wsX6_isBetween) B.pre
  have hown : s.vm.findClass RX6 = some m.cls := findClass_of_methodNamed B.named
  have hlocks := B.notSynchronized
  subst hsz
  generalize hAe : va_A [] s.heap.size = A
  have hA : ∀ q : Nat, s.heap.size ≤ q → A q := fun q h => by rw [← hAe]; exact Or.inr h
  have hS : va_S A s.heap s.heap [] := va_S.rf
  have hl := lv_entry ([.double p_v, .double p_lo, .double p_hi]) (n := 6) (Nat.le_of_ble_eq_true rfl)
  rw [lg_entry_eq]
  generalize (lg_sl ([.double p_v, .double p_lo, .double p_hi]) ++ List.replicate (6 - (lg_sl ([.double p_v, .double p_lo, .double p_hi])).length) Slot.unset).toArray = ls at hl ⊢
  have hl : lv_has ls 6 [(0, .double p_v), (2, .double p_lo), (4, .double p_hi)] := hl
  refine lv_dload_n hx hb dX6_isBetween_0 rfl (lv_at hl 0 rfl) ?_
  refine lv_dload_n hx hb dX6_isBetween_1 rfl (lv_at hl 1 rfl) ?_
  refine lv_dcmp hx hb dX6_isBetween_2 ?_
  refine lv_if_lt (tgt := 17) hx hb dX6_isBetween_3 (by decide) (fun c1 => ?_) (fun c1 => ?_)
  · refine lv_iconst (v := 0) hx hb dX6_isBetween_17 (by decide) ?_
    exact W.zret (v := 0) hx hb hr (rfl) (fun t ht hW => ⟨⟨_, (), rfl, by simp [bb, c1], trivial⟩, hS.F ht⟩) hS.2.2 dX6_isBetween_18
  · refine lv_dload_n hx hb dX6_isBetween_6 rfl (lv_at hl 0 rfl) ?_
    refine lv_dload hx hb dX6_isBetween_7 (lv_at hl 2 rfl) ?_
    refine lv_dcmp hx hb dX6_isBetween_9 ?_
    refine lv_if_gt (tgt := 17) hx hb dX6_isBetween_10 (by decide) (fun c2 => ?_) (fun c2 => ?_)
    · refine lv_iconst (v := 0) hx hb dX6_isBetween_17 (by decide) ?_
      exact W.zret (v := 0) hx hb hr (rfl) (fun t ht hW => ⟨⟨_, (), rfl, by simp [bb, c1, c2], trivial⟩, hS.F ht⟩) hS.2.2 dX6_isBetween_18
    · refine lv_iconst (v := 1) hx hb dX6_isBetween_13 (by decide) ?_
      refine lv_goto (tgt := 18) hx hb dX6_isBetween_14 (by decide) ?_
      exact W.zret (v := 1) hx hb hr (rfl) (fun t ht hW => ⟨⟨_, (), rfl, by simp [bb, c1, c2], trivial⟩, hS.F ht⟩) hS.2.2 dX6_isBetween_18
set_option maxHeartbeats 4000000 in
set_option maxRecDepth 100000 in
theorem c_X6_isRate (l : Launch) (sz : Nat) (p_v : UInt64) : Met l yX6_isRate wsX6_isRate ({ frames := 0, cells := 0, slots := 0, locals := 0 }) (va_Pc [.double p_v] (fun U => U.heap.size = sz)) (va_Qi (fun (r : Int32) (_ : Unit) => r = br p_v) (fun _ _ => True) (va_A [] sz)) 0 0 (va_A [] sz) := by
  refine Met.ofW (cc := cX6_isRate) (maxL := 2) (ret := (some .boolean)) (by decide) rfl ?_
  intro p e s m args below meth c s₁ B hml hv
  obtain ⟨rfl, hsz⟩ := hv
  have hx := B.exec
  have hb := B.bytes
  have hr := B.returns
  have hts := atoms_spec (ws := wsX6_isRate) B.pre
  have hown : s.vm.findClass RX6 = some m.cls := findClass_of_methodNamed B.named
  have hlocks := B.notSynchronized
  subst hsz
  generalize hAe : va_A [] s.heap.size = A
  have hA : ∀ q : Nat, s.heap.size ≤ q → A q := fun q h => by rw [← hAe]; exact Or.inr h
  have hS : va_S A s.heap s.heap [] := va_S.rf
  have hl := lv_entry ([.double p_v]) (n := 2) (Nat.le_of_ble_eq_true rfl)
  rw [lg_entry_eq]
  generalize (lg_sl ([.double p_v]) ++ List.replicate (2 - (lg_sl ([.double p_v])).length) Slot.unset).toArray = ls at hl ⊢
  have hl : lv_has ls 2 [(0, .double p_v)] := hl
  refine lv_dload_n hx hb dX6_isRate_0 rfl (lv_at hl 0 rfl) ?_
  refine lv_dconst0 hx hb dX6_isRate_1 ?_
  refine lv_dcmp hx hb dX6_isRate_2 ?_
  refine lv_if_le (tgt := 18) hx hb dX6_isRate_3 (by decide) (fun c1 => ?_) (fun c1 => ?_)
  · refine lv_iconst (v := 0) hx hb dX6_isRate_18 (by decide) ?_
    exact W.zret (v := 0) hx hb hr (rfl) (fun t ht hW => ⟨⟨_, (), rfl, by simp [br, c1], trivial⟩, hS.F ht⟩) hS.2.2 dX6_isRate_19
  · refine lv_dload_n hx hb dX6_isRate_6 rfl (lv_at hl 0 rfl) ?_
    refine lv_ldc2d (v := 4636737291354636288) hx hb hown (hts (.constantDouble RX6 136 (4636737291354636288)) (by decide +kernel)) dX6_isRate_7 ?_
    refine lv_dcmp hx hb dX6_isRate_10 ?_
    refine lv_if_gt (tgt := 18) hx hb dX6_isRate_11 (by decide) (fun c2 => ?_) (fun c2 => ?_)
    · refine lv_iconst (v := 0) hx hb dX6_isRate_18 (by decide) ?_
      exact W.zret (v := 0) hx hb hr (rfl) (fun t ht hW => ⟨⟨_, (), rfl, by simp [br, c1, c2], trivial⟩, hS.F ht⟩) hS.2.2 dX6_isRate_19
    · refine lv_iconst (v := 1) hx hb dX6_isRate_14 (by decide) ?_
      refine lv_goto (tgt := 19) hx hb dX6_isRate_15 (by decide) ?_
      exact W.zret (v := 1) hx hb hr (rfl) (fun t ht hW => ⟨⟨_, (), rfl, by simp [br, c1, c2], trivial⟩, hS.F ht⟩) hS.2.2 dX6_isRate_19
set_option maxHeartbeats 4000000 in
set_option maxRecDepth 100000 in
theorem c_X7_in (l : Launch) (sz : Nat) (p_v : Int32) (p_lo : Int32) (p_hi : Int32) : Met l yX7_in wsX7_in ({ frames := 0, cells := 0, slots := 0, locals := 0 }) (va_Pc [.int p_v, .int p_lo, .int p_hi] (fun U => U.heap.size = sz)) (va_Qi (fun (r : Int32) (_ : Unit) => r = bw p_v p_lo p_hi) (fun _ _ => True) (va_A [] sz)) 0 0 (va_A [] sz) := by
  refine Met.ofW (cc := cX7_in) (maxL := 3) (ret := (some .boolean)) (by decide) rfl ?_
  intro p e s m args below meth c s₁ B hml hv
  obtain ⟨rfl, hsz⟩ := hv
  have hx := B.exec
  have hb := B.bytes
  have hr := B.returns
  have hts := atoms_spec (ws := wsX7_in) B.pre
  have hown : s.vm.findClass RX7 = some m.cls := findClass_of_methodNamed B.named
  have hlocks := B.notSynchronized
  subst hsz
  generalize hAe : va_A [] s.heap.size = A
  have hA : ∀ q : Nat, s.heap.size ≤ q → A q := fun q h => by rw [← hAe]; exact Or.inr h
  have hS : va_S A s.heap s.heap [] := va_S.rf
  have hl := lv_entry ([.int p_v, .int p_lo, .int p_hi]) (n := 3) (Nat.le_of_ble_eq_true rfl)
  rw [lg_entry_eq]
  generalize (lg_sl ([.int p_v, .int p_lo, .int p_hi]) ++ List.replicate (3 - (lg_sl ([.int p_v, .int p_lo, .int p_hi])).length) Slot.unset).toArray = ls at hl ⊢
  have hl : lv_has ls 3 [(0, .int p_v), (1, .int p_lo), (2, .int p_hi)] := hl
  refine lv_iload_n hx hb dX7_in_0 rfl (lv_at hl 0 rfl) ?_
  refine lv_iload_n hx hb dX7_in_1 rfl (lv_at hl 1 rfl) ?_
  refine lv_icmp_lt (tgt := 14) hx hb dX7_in_2 (by decide) (fun c1 => ?_) (fun c1 => ?_)
  · refine lv_iconst (v := 0) hx hb dX7_in_14 (by decide) ?_
    exact W.zret (v := 0) hx hb hr (rfl) (fun t ht hW => ⟨⟨_, (), rfl, by simp [bw, c1], trivial⟩, hS.F ht⟩) hS.2.2 dX7_in_15
  · refine lv_iload_n hx hb dX7_in_5 rfl (lv_at hl 0 rfl) ?_
    refine lv_iload_n hx hb dX7_in_6 rfl (lv_at hl 2 rfl) ?_
    refine lv_icmp_gt (tgt := 14) hx hb dX7_in_7 (by decide) (fun c2 => ?_) (fun c2 => ?_)
    · refine lv_iconst (v := 0) hx hb dX7_in_14 (by decide) ?_
      exact W.zret (v := 0) hx hb hr (rfl) (fun t ht hW => ⟨⟨_, (), rfl, by simp [bw, c1, c2], trivial⟩, hS.F ht⟩) hS.2.2 dX7_in_15
    · refine lv_iconst (v := 1) hx hb dX7_in_10 (by decide) ?_
      refine lv_goto (tgt := 15) hx hb dX7_in_11 (by decide) ?_
      exact W.zret (v := 1) hx hb hr (rfl) (fun t ht hW => ⟨⟨_, (), rfl, by simp [bw, c1, c2], trivial⟩, hS.F ht⟩) hS.2.2 dX7_in_15
