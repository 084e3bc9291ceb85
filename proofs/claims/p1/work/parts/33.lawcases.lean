/-! THE CLAIM OUT OF ONE WALK OF THE LAW'S BODY. Your part is whole_start (and what it stands on); all else here is the same for every law, but numbers. -/
def R_law : String := "GuardedCallsLaw"
def lw_P (b : Addr) (xs : List Int32) (args : Array Value) (s : State) : Prop := args = #[.ref b] ∧ s.IntsAt b xs ∧ xs.length ≤ 5 ∧ (Jvm.Cond.and given_1 narrow_1).before args s = true
def lw_Q (_ : Array Value) (s : State) (o : Outcome) (t : State) : Prop := o = .returned (some (.int 1)) ∧ Framed s o t [] 600002 7302232
def lw_Z (below : List Frame) (a : Array Value) (s : State) : State → Prop := fun t => ∃ o, t.status = .running ∧ Ended t below o ∧ lw_Q a s o t
/-- the law's own end, with 1 on the stack, nothing written that was there before, its room as the claim has it -/
theorem lw_ret {p : Program} {l : Launch} {e : Env} {s : State} {m : MethodId} {below : List Frame} {meth : Method} {c : Code} {b : Nat} (hx : p.tables.exec = Jvm.exec) (hb : c.code = code) (hr : meth.sig.returnType = ret) (hlocks : meth.locks = false) {pc : Nat} {H : Heap} {ls : Array Slot} (hdg : decode code pc = .ok (.ireturn, 1)) : W p l e room_1 s m #[Value.ref b] below meth c H [] 600002 7302232 (lw_Z below #[Value.ref b] s) (F0 m pc ls [.int 1]) := by
  intro T hT X
  obtain ⟨fs, hret, hrun, hended, hW, hframe⟩ := X.leave (v := some (.int 1)) (hlocks := hlocks) (fun h => by rw [hr] at h; cases h)
  have hmeth' : T.vm.method? m = some meth := X.method'
  refine ⟨T.setFrames fs, ?_, .returned (some (.int 1)), hrun, hended, rfl, ⟨_, rfl⟩, hW, hframe⟩
  jvm_step X.here [X.here.top, hx, hb, hdg, hmeth', hr, ret, narrow_b1]
  (try refine ⟨rfl, ?_⟩); (try refine ⟨rfl, ?_⟩)
  first | (intro acts; rw [hret _ acts rfl rfl rfl]) | rw [hret _ _ rfl rfl rfl]
  exact Steps.refl _
/-- what holds at the law's entry: the machine, the code, the tables' words (any of lw_tbl by 'hts w (by decide +kernel)'), the script of L ints xs at the cell b, what the Statement gives of the start (any of its parts by flat_of_before) -/
def lw_At (p : Program) (s : State) (m : MethodId) (meth : Method) (c : Code) (b L : Nat) (xs : Nat → Int32) : Prop :=
  p.tables.exec = Jvm.exec ∧ c.code = code ∧ meth.sig.returnType = ret ∧ c.maxLocals = 9 ∧ s.vm.findClass R_law = some m.cls ∧ (∀ w ∈ lw_tbl, w.before #[Value.ref b] s = true) ∧ va_X b L xs s s.heap ∧ b < s.heap.size ∧ meth.locks = false ∧ (Jvm.Cond.and given_1 narrow_1).before #[Value.ref b] s = true
set_option maxHeartbeats 4000000 in
set_option maxRecDepth 100000 in
/-- behind a case: i is 5, the script has 5 ints: it answers 1 -/
theorem law_end {p : Program} {l : Launch} {e : Env} {s : State} {m : MethodId} {below : List Frame} {meth : Method} {c : Code} {b : Nat} {xs : Nat → Int32} (C0 : lw_At p s m meth c b 5 xs) {H : Heap} {locs : List Loc} (hS : va_S (fun q : Nat => s.heap.size ≤ q) s.heap H locs) {ls : Array Slot} {y1 y2 y3 : Nat} (hl : lv_has ls 9 [(4, .int 0), (3, .ref y3), (2, .ref y2), (1, .ref y1), (0, .ref b)]) : W p l e room_1 s m #[Value.ref b] below meth c H locs 20 248 (lw_Z below #[Value.ref b] s) (F0 m 778 ls []) := by
  obtain ⟨hx, hb, hr, hml, hown, hts, hX, hbl, hlocks, hgv⟩ := C0
  have hbA : ¬ (fun q : Nat => s.heap.size ≤ q) b := Nat.not_le.mpr hbl
  refine lv_iinc (v := 5) (lv' := [(4, .int 5), (3, .ref y3), (2, .ref y2), (1, .ref y1), (0, .ref b)]) hx hb dL_law_778 hl (k := 0) rfl (by decide) (by decide) rfl (fun ls hl => ?_)
  refine lv_goto (tgt := 23) hx hb dL_law_781 (by decide) ?_
  refine lv_iload hx hb dL_law_23 (lv_at hl 0 rfl) ?_
  refine lv_aload_n hx hb dL_law_25 rfl (lv_at hl 4 rfl) ?_
  refine va_slen hx hb hX hbl hbA hS dL_law_26 ?_
  refine lv_iconst (v := 5) hx hb dL_law_27 (by decide) ?_
  refine lv_isub hx hb dL_law_28 ?_
  refine lv_topi (fun x1 e1 => ?_)
  obtain rfl : x1 = 0 := e1.trans (by decide)
  refine lv_icmp_gt (tgt := 784) hx hb dL_law_29 (by decide) (fun c1 => ?_) (fun c1 => absurd (by decide) c1)
  refine lv_iconst (v := 1) hx hb dL_law_784 (by decide) ?_
  refine va_forget (fun q hq => hS.2.2 q hq) ?_
  refine W.widen (k := 600002) (n := 7302232) (Nat.le_of_ble_eq_true rfl) (Nat.le_of_ble_eq_true rfl) ?_
  exact lw_ret hx hb hr hlocks dL_law_785
set_option maxHeartbeats 4000000 in
set_option maxRecDepth 100000 in
theorem law_case0 {p : Program} {l : Launch} {e : Env} {s : State} {m : MethodId} {below : List Frame} {meth : Method} {c : Code} {b : Nat} {xs : Nat → Int32} (C0 : lw_At p s m meth c b 5 xs) {D : va_G} {cI cL : ClassId} {a am : Nat → Nat} {qo : Nat} {fo : Nat → Int64} (hKK : KL D cI cL s) {H : Heap} {locs : List Loc} (hP : va_P D vwCl (cw cI a cgI cdI cFI ++ (mw cI am mgI mdI mFI ++ [(qo, .inl (cL, 1, .inr (.inl fo)))])) H) (hD : va_D (fun q : Nat => s.heap.size ≤ q) (cw cI a cgI cdI cFI ++ (mw cI am mgI mdI mFI ++ [(qo, .inl (cL, 1, .inr (.inl fo)))]))) (hS : va_S (fun q : Nat => s.heap.size ≤ q) s.heap H locs) {ls : Array Slot} (hl : lv_has ls 9 [(4, .int 0), (3, .ref qo), (2, .ref (am 0)), (1, .ref (a 0)), (0, .ref b)]) : W p l e room_1 s m #[Value.ref b] below meth c H locs 20 248 (lw_Z below #[Value.ref b] s) (F0 m 120 ls []) := by
  have C1 := C0
  obtain ⟨hx, hb, hr, hml, hown, hts, hX, hbl, hlocks, hgv⟩ := C0
  have hts := fun w h => hts w (wsL_law_in w h)
  have hK := hKK.1
  have hA : ∀ q : Nat, s.heap.size ≤ q → (fun q : Nat => s.heap.size ≤ q) q := fun _ h => h
  have hbA : ¬ (fun q : Nat => s.heap.size ≤ q) b := Nat.not_le.mpr hbl
  refine lv_aload_n hx hb dL_law_120 rfl (lv_at hl 3 rfl) ?_
  refine lv_aload_n hx hb dL_law_121 rfl (lv_at hl 4 rfl) ?_
  refine lv_iload hx hb dL_law_122 (lv_at hl 0 rfl) ?_
  refine lv_iconst (v := 1) hx hb dL_law_124 (by decide) ?_
  refine lv_iadd hx hb dL_law_125 ?_
  refine lv_topi (fun x1 e1 => ?_)
  obtain rfl : x1 = 1 := e1.trans (by decide)
  refine va_sld hx hb hX hbl hbA hS (by unfold vp_in; decide) dL_law_126 ?_
  refine lv_aload_n hx hb dL_law_127 rfl (lv_at hl 4 rfl) ?_
  refine lv_iload hx hb dL_law_128 (lv_at hl 0 rfl) ?_
  refine lv_iconst (v := 2) hx hb dL_law_130 (by decide) ?_
  refine lv_iadd hx hb dL_law_131 ?_
  refine lv_topi (fun x3 e3 => ?_)
  obtain rfl : x3 = 2 := e3.trans (by decide)
  refine va_sld hx hb hX hbl hbA hS (by unfold vp_in; decide) dL_law_132 ?_
  refine lv_aload_n hx hb dL_law_133 rfl (lv_at hl 4 rfl) ?_
  refine lv_iload hx hb dL_law_134 (lv_at hl 0 rfl) ?_
  refine lv_iconst (v := 3) hx hb dL_law_136 (by decide) ?_
  refine lv_iadd hx hb dL_law_137 ?_
  refine lv_topi (fun x5 e5 => ?_)
  obtain rfl : x5 = 3 := e5.trans (by decide)
  refine va_sld hx hb hX hbl hbA hS (by unfold vp_in; decide) dL_law_138 ?_
  refine lv_aload_n hx hb dL_law_139 rfl (lv_at hl 4 rfl) ?_
  refine lv_iload hx hb dL_law_140 (lv_at hl 0 rfl) ?_
  refine lv_iconst (v := 4) hx hb dL_law_142 (by decide) ?_
  refine lv_iadd hx hb dL_law_143 ?_
  refine lv_topi (fun x7 e7 => ?_)
  obtain rfl : x7 = 4 := e7.trans (by decide)
  refine va_sld hx hb hX hbl hbA hS (by unfold vp_in; decide) dL_law_144 ?_
  refine gc_vi (As := [.int ((xs (1 : Int32).toNatClampNeg)), .int ((xs (2 : Int32).toNatClampNeg)), .int ((xs (3 : Int32).toNatClampNeg)), .int ((xs (4 : Int32).toNatClampNeg))]) (rest := []) (w0 := cw cI a cgI cdI cFI ++ (mw cI am mgI mdI mFI ++ ([(qo, .inl (cL, 1, .inr (.inl fo)))]))) (wc := cw cI a cgI cdI cFI) (wr := mw cI am mgI mdI mFI ++ ([(qo, .inl (cL, 1, .inr (.inl fo)))])) (wf := wfC cI a) ⟨hx, hb, hml, hown, hts⟩ (KL_C hKK) (KC_ok D cI) hP hD hS hA [0, 1, 2, 3, 4, 5, 6, 7, 8, 9, 10, 11] [12, 13, 14, 15, 16, 17, 18, 19] rfl rfl (by decide) (i_X6_breaker l D cI a _ ((xs (1 : Int32).toNatClampNeg)) ((xs (2 : Int32).toNatClampNeg)) ((xs (3 : Int32).toNatClampNeg)) ((xs (4 : Int32).toNatClampNeg))) (cwV 4 hts gL_law_X6_breaker rfl rfl rfl (by decide +kernel) ⟨Nat.le_of_ble_eq_true rfl, Nat.le_of_ble_eq_true rfl⟩) (va_recv hK hP (ci := 6) (q0 := 0) rfl rfl) rfl hl.1 rfl (Nat.le_of_ble_eq_true rfl) dL_law_145 ⟨Nat.le_of_ble_eq_true rfl, Nat.le_of_ble_eq_true rfl⟩ (fun r9 u9 H locs hw9 hP hD hS => ?_)
  have hP : va_P D vwCl (mw cI am mgI mdI mFI ++ ([(qo, .inl (cL, 1, .inr (.inl fo)))] ++ (wfC cI a u9))) H := hP
  have hD : va_D (fun q : Nat => s.heap.size ≤ q) (mw cI am mgI mdI mFI ++ ([(qo, .inl (cL, 1, .inr (.inl fo)))] ++ (wfC cI a u9))) := hD
  subst hw9
  refine lv_aload_n hx hb dL_law_148 rfl (lv_at hl 2 rfl) ?_
  refine lv_aload_n hx hb dL_law_149 rfl (lv_at hl 4 rfl) ?_
  refine lv_iload hx hb dL_law_150 (lv_at hl 0 rfl) ?_
  refine lv_iconst (v := 1) hx hb dL_law_152 (by decide) ?_
  refine lv_iadd hx hb dL_law_153 ?_
  refine lv_topi (fun x10 e10 => ?_)
  obtain rfl : x10 = 1 := e10.trans (by decide)
  refine va_sld hx hb hX hbl hbA hS (by unfold vp_in; decide) dL_law_154 ?_
  refine lv_aload_n hx hb dL_law_155 rfl (lv_at hl 4 rfl) ?_
  refine lv_iload hx hb dL_law_156 (lv_at hl 0 rfl) ?_
  refine lv_iconst (v := 2) hx hb dL_law_158 (by decide) ?_
  refine lv_iadd hx hb dL_law_159 ?_
  refine lv_topi (fun x12 e12 => ?_)
  obtain rfl : x12 = 2 := e12.trans (by decide)
  refine va_sld hx hb hX hbl hbA hS (by unfold vp_in; decide) dL_law_160 ?_
  refine lv_aload_n hx hb dL_law_161 rfl (lv_at hl 4 rfl) ?_
  refine lv_iload hx hb dL_law_162 (lv_at hl 0 rfl) ?_
  refine lv_iconst (v := 3) hx hb dL_law_164 (by decide) ?_
  refine lv_iadd hx hb dL_law_165 ?_
  refine lv_topi (fun x14 e14 => ?_)
  obtain rfl : x14 = 3 := e14.trans (by decide)
  refine va_sld hx hb hX hbl hbA hS (by unfold vp_in; decide) dL_law_166 ?_
  refine lv_aload_n hx hb dL_law_167 rfl (lv_at hl 4 rfl) ?_
  refine lv_iload hx hb dL_law_168 (lv_at hl 0 rfl) ?_
  refine lv_iconst (v := 4) hx hb dL_law_170 (by decide) ?_
  refine lv_iadd hx hb dL_law_171 ?_
  refine lv_topi (fun x16 e16 => ?_)
  obtain rfl : x16 = 4 := e16.trans (by decide)
  refine va_sld hx hb hX hbl hbA hS (by unfold vp_in; decide) dL_law_172 ?_
  refine gc_vi (As := [.int ((xs (1 : Int32).toNatClampNeg)), .int ((xs (2 : Int32).toNatClampNeg)), .int ((xs (3 : Int32).toNatClampNeg)), .int ((xs (4 : Int32).toNatClampNeg))]) (rest := [.int ((sp_breaker ((xs (1 : Int32).toNatClampNeg)) ((xs (2 : Int32).toNatClampNeg)) ((xs (3 : Int32).toNatClampNeg)) ((xs (4 : Int32).toNatClampNeg))))]) (w0 := mw cI am mgI mdI mFI ++ ([(qo, .inl (cL, 1, .inr (.inl fo)))] ++ (wfC cI a u9))) (wc := mw cI am mgI mdI mFI) (wr := [(qo, .inl (cL, 1, .inr (.inl fo)))] ++ (wfC cI a u9)) (wf := wfM cI am) ⟨hx, hb, hml, hown, hts⟩ (KL_M hKK) (KM_ok D cI) hP hD hS hA [0, 1, 2, 3, 4, 5, 6] [7, 8, 9, 10, 11, 12, 13, 14, 15, 16, 17, 18, 19] rfl rfl (by decide) (i_X7_breaker l D cI am _ ((xs (1 : Int32).toNatClampNeg)) ((xs (2 : Int32).toNatClampNeg)) ((xs (3 : Int32).toNatClampNeg)) ((xs (4 : Int32).toNatClampNeg))) (cwV 4 hts gL_law_X7_breaker rfl rfl rfl (by decide +kernel) ⟨Nat.le_of_ble_eq_true rfl, Nat.le_of_ble_eq_true rfl⟩) (va_recv hK hP (ci := 7) (q0 := 0) rfl rfl) rfl hl.1 rfl (Nat.le_of_ble_eq_true rfl) dL_law_173 ⟨Nat.le_of_ble_eq_true rfl, Nat.le_of_ble_eq_true rfl⟩ (fun r18 u18 H locs hw18 hP hD hS => ?_)
  have hP : va_P D vwCl ([(qo, .inl (cL, 1, .inr (.inl fo)))] ++ (wfC cI a u9 ++ (wfM cI am u18))) H := hP
  have hD : va_D (fun q : Nat => s.heap.size ≤ q) ([(qo, .inl (cL, 1, .inr (.inl fo)))] ++ (wfC cI a u9 ++ (wfM cI am u18))) := hD
  subst hw18
  refine lv_icmp_eq (tgt := 778) hx hb dL_law_176 (by decide) (fun c19 => ?_) (fun c19 => absurd (rfl) c19)
  exact law_end C1 hS (lv_sub hl [0, 1, 2, 3, 4] rfl)
set_option maxHeartbeats 4000000 in
set_option maxRecDepth 100000 in
theorem law_case1 {p : Program} {l : Launch} {e : Env} {s : State} {m : MethodId} {below : List Frame} {meth : Method} {c : Code} {b : Nat} {xs : Nat → Int32} (C0 : lw_At p s m meth c b 5 xs) {D : va_G} {cI cL : ClassId} {a am : Nat → Nat} {qo : Nat} {fo : Nat → Int64} (hKK : KL D cI cL s) {H : Heap} {locs : List Loc} (hP : va_P D vwCl (cw cI a cgI cdI cFI ++ (mw cI am mgI mdI mFI ++ [(qo, .inl (cL, 1, .inr (.inl fo)))])) H) (hD : va_D (fun q : Nat => s.heap.size ≤ q) (cw cI a cgI cdI cFI ++ (mw cI am mgI mdI mFI ++ [(qo, .inl (cL, 1, .inr (.inl fo)))]))) (hS : va_S (fun q : Nat => s.heap.size ≤ q) s.heap H locs) {ls : Array Slot} (hl : lv_has ls 9 [(4, .int 0), (3, .ref qo), (2, .ref (am 0)), (1, .ref (a 0)), (0, .ref b)]) : W p l e room_1 s m #[Value.ref b] below meth c H locs 20 248 (lw_Z below #[Value.ref b] s) (F0 m 181 ls []) := by
  have C1 := C0
  obtain ⟨hx, hb, hr, hml, hown, hts, hX, hbl, hlocks, hgv⟩ := C0
  have hts := fun w h => hts w (wsL_law_in w h)
  have hK := hKK.1
  have hA : ∀ q : Nat, s.heap.size ≤ q → (fun q : Nat => s.heap.size ≤ q) q := fun _ h => h
  have hbA : ¬ (fun q : Nat => s.heap.size ≤ q) b := Nat.not_le.mpr hbl
  refine lv_aload_n hx hb dL_law_181 rfl (lv_at hl 3 rfl) ?_
  refine lv_aload_n hx hb dL_law_182 rfl (lv_at hl 4 rfl) ?_
  refine lv_iload hx hb dL_law_183 (lv_at hl 0 rfl) ?_
  refine lv_iconst (v := 1) hx hb dL_law_185 (by decide) ?_
  refine lv_iadd hx hb dL_law_186 ?_
  refine lv_topi (fun x20 e20 => ?_)
  obtain rfl : x20 = 1 := e20.trans (by decide)
  refine va_sld hx hb hX hbl hbA hS (by unfold vp_in; decide) dL_law_187 ?_
  refine lv_i2d hx hb dL_law_188 ?_
  refine lv_ldc2d (v := 4593671619917905920) hx hb hown (hts (.constantDouble RL 34 (4593671619917905920)) (by decide +kernel)) dL_law_189 ?_
  refine lv_dmul hx hb dL_law_192 (n64_eighth _) ?_
  refine lv_aload_n hx hb dL_law_193 rfl (lv_at hl 4 rfl) ?_
  refine lv_iload hx hb dL_law_194 (lv_at hl 0 rfl) ?_
  refine lv_iconst (v := 2) hx hb dL_law_196 (by decide) ?_
  refine lv_iadd hx hb dL_law_197 ?_
  refine lv_topi (fun x23 e23 => ?_)
  obtain rfl : x23 = 2 := e23.trans (by decide)
  refine va_sld hx hb hX hbl hbA hS (by unfold vp_in; decide) dL_law_198 ?_
  refine lv_i2d hx hb dL_law_199 ?_
  refine lv_ldc2d (v := 4593671619917905920) hx hb hown (hts (.constantDouble RL 34 (4593671619917905920)) (by decide +kernel)) dL_law_200 ?_
  refine lv_dmul hx hb dL_law_203 (n64_eighth _) ?_
  refine lv_aload_n hx hb dL_law_204 rfl (lv_at hl 4 rfl) ?_
  refine lv_iload hx hb dL_law_205 (lv_at hl 0 rfl) ?_
  refine lv_iconst (v := 3) hx hb dL_law_207 (by decide) ?_
  refine lv_iadd hx hb dL_law_208 ?_
  refine lv_topi (fun x26 e26 => ?_)
  obtain rfl : x26 = 3 := e26.trans (by decide)
  refine va_sld hx hb hX hbl hbA hS (by unfold vp_in; decide) dL_law_209 ?_
  refine gc_vi (As := [.double ((FP.dmul (FP.i2d (xs (1 : Int32).toNatClampNeg)) 4593671619917905920)), .double ((FP.dmul (FP.i2d (xs (2 : Int32).toNatClampNeg)) 4593671619917905920)), .int ((xs (3 : Int32).toNatClampNeg))]) (rest := []) (w0 := cw cI a cgI cdI cFI ++ (mw cI am mgI mdI mFI ++ ([(qo, .inl (cL, 1, .inr (.inl fo)))]))) (wc := cw cI a cgI cdI cFI) (wr := mw cI am mgI mdI mFI ++ ([(qo, .inl (cL, 1, .inr (.inl fo)))])) (wf := wfC cI a) ⟨hx, hb, hml, hown, hts⟩ (KL_C hKK) (KC_ok D cI) hP hD hS hA [0, 1, 2, 3, 4, 5, 6, 7, 8, 9, 10, 11] [12, 13, 14, 15, 16, 17, 18, 19] rfl rfl (by decide) (i_X6_trips l D cI a _ ((FP.dmul (FP.i2d (xs (1 : Int32).toNatClampNeg)) 4593671619917905920)) ((FP.dmul (FP.i2d (xs (2 : Int32).toNatClampNeg)) 4593671619917905920)) ((xs (3 : Int32).toNatClampNeg))) (cwV 3 hts gL_law_X6_trips rfl rfl rfl (by decide +kernel) ⟨Nat.le_of_ble_eq_true rfl, Nat.le_of_ble_eq_true rfl⟩) (va_recv hK hP (ci := 6) (q0 := 0) rfl rfl) rfl hl.1 rfl (Nat.le_of_ble_eq_true rfl) dL_law_210 ⟨Nat.le_of_ble_eq_true rfl, Nat.le_of_ble_eq_true rfl⟩ (fun r28 u28 H locs hw28 hP hD hS => ?_)
  have hP : va_P D vwCl (mw cI am mgI mdI mFI ++ ([(qo, .inl (cL, 1, .inr (.inl fo)))] ++ (wfC cI a u28))) H := hP
  have hD : va_D (fun q : Nat => s.heap.size ≤ q) (mw cI am mgI mdI mFI ++ ([(qo, .inl (cL, 1, .inr (.inl fo)))] ++ (wfC cI a u28))) := hD
  subst hw28
  refine lv_aload_n hx hb dL_law_213 rfl (lv_at hl 2 rfl) ?_
  refine lv_aload_n hx hb dL_law_214 rfl (lv_at hl 4 rfl) ?_
  refine lv_iload hx hb dL_law_215 (lv_at hl 0 rfl) ?_
  refine lv_iconst (v := 1) hx hb dL_law_217 (by decide) ?_
  refine lv_iadd hx hb dL_law_218 ?_
  refine lv_topi (fun x29 e29 => ?_)
  obtain rfl : x29 = 1 := e29.trans (by decide)
  refine va_sld hx hb hX hbl hbA hS (by unfold vp_in; decide) dL_law_219 ?_
  refine lv_i2d hx hb dL_law_220 ?_
  refine lv_ldc2d (v := 4593671619917905920) hx hb hown (hts (.constantDouble RL 34 (4593671619917905920)) (by decide +kernel)) dL_law_221 ?_
  refine lv_dmul hx hb dL_law_224 (n64_eighth _) ?_
  refine lv_aload_n hx hb dL_law_225 rfl (lv_at hl 4 rfl) ?_
  refine lv_iload hx hb dL_law_226 (lv_at hl 0 rfl) ?_
  refine lv_iconst (v := 2) hx hb dL_law_228 (by decide) ?_
  refine lv_iadd hx hb dL_law_229 ?_
  refine lv_topi (fun x32 e32 => ?_)
  obtain rfl : x32 = 2 := e32.trans (by decide)
  refine va_sld hx hb hX hbl hbA hS (by unfold vp_in; decide) dL_law_230 ?_
  refine lv_i2d hx hb dL_law_231 ?_
  refine lv_ldc2d (v := 4593671619917905920) hx hb hown (hts (.constantDouble RL 34 (4593671619917905920)) (by decide +kernel)) dL_law_232 ?_
  refine lv_dmul hx hb dL_law_235 (n64_eighth _) ?_
  refine lv_aload_n hx hb dL_law_236 rfl (lv_at hl 4 rfl) ?_
  refine lv_iload hx hb dL_law_237 (lv_at hl 0 rfl) ?_
  refine lv_iconst (v := 3) hx hb dL_law_239 (by decide) ?_
  refine lv_iadd hx hb dL_law_240 ?_
  refine lv_topi (fun x35 e35 => ?_)
  obtain rfl : x35 = 3 := e35.trans (by decide)
  refine va_sld hx hb hX hbl hbA hS (by unfold vp_in; decide) dL_law_241 ?_
  refine gc_vi (As := [.double ((FP.dmul (FP.i2d (xs (1 : Int32).toNatClampNeg)) 4593671619917905920)), .double ((FP.dmul (FP.i2d (xs (2 : Int32).toNatClampNeg)) 4593671619917905920)), .int ((xs (3 : Int32).toNatClampNeg))]) (rest := [.int ((sp_trips ((FP.dmul (FP.i2d (xs (1 : Int32).toNatClampNeg)) 4593671619917905920)) ((FP.dmul (FP.i2d (xs (2 : Int32).toNatClampNeg)) 4593671619917905920)) ((xs (3 : Int32).toNatClampNeg))))]) (w0 := mw cI am mgI mdI mFI ++ ([(qo, .inl (cL, 1, .inr (.inl fo)))] ++ (wfC cI a u28))) (wc := mw cI am mgI mdI mFI) (wr := [(qo, .inl (cL, 1, .inr (.inl fo)))] ++ (wfC cI a u28)) (wf := wfM cI am) ⟨hx, hb, hml, hown, hts⟩ (KL_M hKK) (KM_ok D cI) hP hD hS hA [0, 1, 2, 3, 4, 5, 6] [7, 8, 9, 10, 11, 12, 13, 14, 15, 16, 17, 18, 19] rfl rfl (by decide) (i_X7_trips l D cI am _ ((FP.dmul (FP.i2d (xs (1 : Int32).toNatClampNeg)) 4593671619917905920)) ((FP.dmul (FP.i2d (xs (2 : Int32).toNatClampNeg)) 4593671619917905920)) ((xs (3 : Int32).toNatClampNeg))) (cwV 3 hts gL_law_X7_trips rfl rfl rfl (by decide +kernel) ⟨Nat.le_of_ble_eq_true rfl, Nat.le_of_ble_eq_true rfl⟩) (va_recv hK hP (ci := 7) (q0 := 0) rfl rfl) rfl hl.1 rfl (Nat.le_of_ble_eq_true rfl) dL_law_242 ⟨Nat.le_of_ble_eq_true rfl, Nat.le_of_ble_eq_true rfl⟩ (fun r37 u37 H locs hw37 hP hD hS => ?_)
  have hP : va_P D vwCl ([(qo, .inl (cL, 1, .inr (.inl fo)))] ++ (wfC cI a u28 ++ (wfM cI am u37))) H := hP
  have hD : va_D (fun q : Nat => s.heap.size ≤ q) ([(qo, .inl (cL, 1, .inr (.inl fo)))] ++ (wfC cI a u28 ++ (wfM cI am u37))) := hD
  subst hw37
  refine lv_icmp_eq (tgt := 778) hx hb dL_law_245 (by decide) (fun c38 => ?_) (fun c38 => absurd (rfl) c38)
  exact law_end C1 hS (lv_sub hl [0, 1, 2, 3, 4] rfl)
set_option maxHeartbeats 4000000 in
set_option maxRecDepth 100000 in
theorem law_case2 {p : Program} {l : Launch} {e : Env} {s : State} {m : MethodId} {below : List Frame} {meth : Method} {c : Code} {b : Nat} {xs : Nat → Int32} (C0 : lw_At p s m meth c b 5 xs) {D : va_G} {cI cL : ClassId} {a am : Nat → Nat} {qo : Nat} {fo : Nat → Int64} (hKK : KL D cI cL s) {H : Heap} {locs : List Loc} (hP : va_P D vwCl (cw cI a cgI cdI cFI ++ (mw cI am mgI mdI mFI ++ [(qo, .inl (cL, 1, .inr (.inl fo)))])) H) (hD : va_D (fun q : Nat => s.heap.size ≤ q) (cw cI a cgI cdI cFI ++ (mw cI am mgI mdI mFI ++ [(qo, .inl (cL, 1, .inr (.inl fo)))]))) (hS : va_S (fun q : Nat => s.heap.size ≤ q) s.heap H locs) {ls : Array Slot} (hl : lv_has ls 9 [(4, .int 0), (3, .ref qo), (2, .ref (am 0)), (1, .ref (a 0)), (0, .ref b)]) : W p l e room_1 s m #[Value.ref b] below meth c H locs 20 248 (lw_Z below #[Value.ref b] s) (F0 m 250 ls []) := by
  have C1 := C0
  obtain ⟨hx, hb, hr, hml, hown, hts, hX, hbl, hlocks, hgv⟩ := C0
  have hts := fun w h => hts w (wsL_law_in w h)
  have hK := hKK.1
  have hA : ∀ q : Nat, s.heap.size ≤ q → (fun q : Nat => s.heap.size ≤ q) q := fun _ h => h
  have hbA : ¬ (fun q : Nat => s.heap.size ≤ q) b := Nat.not_le.mpr hbl
  refine lv_aload_n hx hb dL_law_250 rfl (lv_at hl 3 rfl) ?_
  refine lv_aload_n hx hb dL_law_251 rfl (lv_at hl 4 rfl) ?_
  refine lv_iload hx hb dL_law_252 (lv_at hl 0 rfl) ?_
  refine lv_iconst (v := 1) hx hb dL_law_254 (by decide) ?_
  refine lv_iadd hx hb dL_law_255 ?_
  refine lv_topi (fun x39 e39 => ?_)
  obtain rfl : x39 = 1 := e39.trans (by decide)
  refine va_sld hx hb hX hbl hbA hS (by unfold vp_in; decide) dL_law_256 ?_
  refine gc_vi (As := [.int ((xs (1 : Int32).toNatClampNeg))]) (rest := []) (w0 := cw cI a cgI cdI cFI ++ (mw cI am mgI mdI mFI ++ ([(qo, .inl (cL, 1, .inr (.inl fo)))]))) (wc := cw cI a cgI cdI cFI) (wr := mw cI am mgI mdI mFI ++ ([(qo, .inl (cL, 1, .inr (.inl fo)))])) (wf := wfC cI a) ⟨hx, hb, hml, hown, hts⟩ (KL_C hKK) (KC_ok D cI) hP hD hS hA [0, 1, 2, 3, 4, 5, 6, 7, 8, 9, 10, 11] [12, 13, 14, 15, 16, 17, 18, 19] rfl rfl (by decide) (i_X6_bulkhead l D cI a _ ((xs (1 : Int32).toNatClampNeg))) (cwV 1 hts gL_law_X6_bulkhead rfl rfl rfl (by decide +kernel) ⟨Nat.le_of_ble_eq_true rfl, Nat.le_of_ble_eq_true rfl⟩) (va_recv hK hP (ci := 6) (q0 := 0) rfl rfl) rfl hl.1 rfl (Nat.le_of_ble_eq_true rfl) dL_law_257 ⟨Nat.le_of_ble_eq_true rfl, Nat.le_of_ble_eq_true rfl⟩ (fun r41 u41 H locs hw41 hP hD hS => ?_)
  have hP : va_P D vwCl (mw cI am mgI mdI mFI ++ ([(qo, .inl (cL, 1, .inr (.inl fo)))] ++ (wfC cI a u41))) H := hP
  have hD : va_D (fun q : Nat => s.heap.size ≤ q) (mw cI am mgI mdI mFI ++ ([(qo, .inl (cL, 1, .inr (.inl fo)))] ++ (wfC cI a u41))) := hD
  subst hw41
  refine lv_aload_n hx hb dL_law_260 rfl (lv_at hl 2 rfl) ?_
  refine lv_aload_n hx hb dL_law_261 rfl (lv_at hl 4 rfl) ?_
  refine lv_iload hx hb dL_law_262 (lv_at hl 0 rfl) ?_
  refine lv_iconst (v := 1) hx hb dL_law_264 (by decide) ?_
  refine lv_iadd hx hb dL_law_265 ?_
  refine lv_topi (fun x42 e42 => ?_)
  obtain rfl : x42 = 1 := e42.trans (by decide)
  refine va_sld hx hb hX hbl hbA hS (by unfold vp_in; decide) dL_law_266 ?_
  refine gc_vi (As := [.int ((xs (1 : Int32).toNatClampNeg))]) (rest := [.int ((sp1 ((xs (1 : Int32).toNatClampNeg)) 0 5))]) (w0 := mw cI am mgI mdI mFI ++ ([(qo, .inl (cL, 1, .inr (.inl fo)))] ++ (wfC cI a u41))) (wc := mw cI am mgI mdI mFI) (wr := [(qo, .inl (cL, 1, .inr (.inl fo)))] ++ (wfC cI a u41)) (wf := wfM cI am) ⟨hx, hb, hml, hown, hts⟩ (KL_M hKK) (KM_ok D cI) hP hD hS hA [0, 1, 2, 3, 4, 5, 6] [7, 8, 9, 10, 11, 12, 13, 14, 15, 16, 17, 18, 19] rfl rfl (by decide) (i_X7_bulkhead l D cI am _ ((xs (1 : Int32).toNatClampNeg))) (cwV 1 hts gL_law_X7_bulkhead rfl rfl rfl (by decide +kernel) ⟨Nat.le_of_ble_eq_true rfl, Nat.le_of_ble_eq_true rfl⟩) (va_recv hK hP (ci := 7) (q0 := 0) rfl rfl) rfl hl.1 rfl (Nat.le_of_ble_eq_true rfl) dL_law_267 ⟨Nat.le_of_ble_eq_true rfl, Nat.le_of_ble_eq_true rfl⟩ (fun r44 u44 H locs hw44 hP hD hS => ?_)
  have hP : va_P D vwCl ([(qo, .inl (cL, 1, .inr (.inl fo)))] ++ (wfC cI a u41 ++ (wfM cI am u44))) H := hP
  have hD : va_D (fun q : Nat => s.heap.size ≤ q) ([(qo, .inl (cL, 1, .inr (.inl fo)))] ++ (wfC cI a u41 ++ (wfM cI am u44))) := hD
  subst hw44
  refine lv_icmp_eq (tgt := 778) hx hb dL_law_270 (by decide) (fun c45 => ?_) (fun c45 => absurd (rfl) c45)
  exact law_end C1 hS (lv_sub hl [0, 1, 2, 3, 4] rfl)
set_option maxHeartbeats 4000000 in
set_option maxRecDepth 100000 in
theorem law_case3 {p : Program} {l : Launch} {e : Env} {s : State} {m : MethodId} {below : List Frame} {meth : Method} {c : Code} {b : Nat} {xs : Nat → Int32} (C0 : lw_At p s m meth c b 5 xs) {D : va_G} {cI cL : ClassId} {a am : Nat → Nat} {qo : Nat} {fo : Nat → Int64} (hKK : KL D cI cL s) {H : Heap} {locs : List Loc} (hP : va_P D vwCl (cw cI a cgI cdI cFI ++ (mw cI am mgI mdI mFI ++ [(qo, .inl (cL, 1, .inr (.inl fo)))])) H) (hD : va_D (fun q : Nat => s.heap.size ≤ q) (cw cI a cgI cdI cFI ++ (mw cI am mgI mdI mFI ++ [(qo, .inl (cL, 1, .inr (.inl fo)))]))) (hS : va_S (fun q : Nat => s.heap.size ≤ q) s.heap H locs) {ls : Array Slot} (hl : lv_has ls 9 [(4, .int 0), (3, .ref qo), (2, .ref (am 0)), (1, .ref (a 0)), (0, .ref b)]) : W p l e room_1 s m #[Value.ref b] below meth c H locs 20 248 (lw_Z below #[Value.ref b] s) (F0 m 275 ls []) := by
  have C1 := C0
  obtain ⟨hx, hb, hr, hml, hown, hts, hX, hbl, hlocks, hgv⟩ := C0
  have hts := fun w h => hts w (wsL_law_in w h)
  have hK := hKK.1
  have hA : ∀ q : Nat, s.heap.size ≤ q → (fun q : Nat => s.heap.size ≤ q) q := fun _ h => h
  have hbA : ¬ (fun q : Nat => s.heap.size ≤ q) b := Nat.not_le.mpr hbl
  refine lv_aload_n hx hb dL_law_275 rfl (lv_at hl 3 rfl) ?_
  refine lv_aload_n hx hb dL_law_276 rfl (lv_at hl 4 rfl) ?_
  refine lv_iload hx hb dL_law_277 (lv_at hl 0 rfl) ?_
  refine lv_iconst (v := 1) hx hb dL_law_279 (by decide) ?_
  refine lv_iadd hx hb dL_law_280 ?_
  refine lv_topi (fun x46 e46 => ?_)
  obtain rfl : x46 = 1 := e46.trans (by decide)
  refine va_sld hx hb hX hbl hbA hS (by unfold vp_in; decide) dL_law_281 ?_
  refine gc_vi (As := [.int ((xs (1 : Int32).toNatClampNeg))]) (rest := []) (w0 := cw cI a cgI cdI cFI ++ (mw cI am mgI mdI mFI ++ ([(qo, .inl (cL, 1, .inr (.inl fo)))]))) (wc := cw cI a cgI cdI cFI) (wr := mw cI am mgI mdI mFI ++ ([(qo, .inl (cL, 1, .inr (.inl fo)))])) (wf := wfC cI a) ⟨hx, hb, hml, hown, hts⟩ (KL_C hKK) (KC_ok D cI) hP hD hS hA [0, 1, 2, 3, 4, 5, 6, 7, 8, 9, 10, 11] [12, 13, 14, 15, 16, 17, 18, 19] rfl rfl (by decide) (i_X6_use l D cI a _ ((xs (1 : Int32).toNatClampNeg))) (cwV 1 hts gL_law_X6_use rfl rfl rfl (by decide +kernel) ⟨Nat.le_of_ble_eq_true rfl, Nat.le_of_ble_eq_true rfl⟩) (va_recv hK hP (ci := 6) (q0 := 0) rfl rfl) rfl hl.1 rfl (Nat.le_of_ble_eq_true rfl) dL_law_282 ⟨Nat.le_of_ble_eq_true rfl, Nat.le_of_ble_eq_true rfl⟩ (fun r48 u48 H locs hw48 hP hD hS => ?_)
  have hP : va_P D vwCl (mw cI am mgI mdI mFI ++ ([(qo, .inl (cL, 1, .inr (.inl fo)))] ++ (wfC cI a u48))) H := hP
  have hD : va_D (fun q : Nat => s.heap.size ≤ q) (mw cI am mgI mdI mFI ++ ([(qo, .inl (cL, 1, .inr (.inl fo)))] ++ (wfC cI a u48))) := hD
  subst hw48
  refine lv_aload_n hx hb dL_law_285 rfl (lv_at hl 2 rfl) ?_
  refine lv_aload_n hx hb dL_law_286 rfl (lv_at hl 4 rfl) ?_
  refine lv_iload hx hb dL_law_287 (lv_at hl 0 rfl) ?_
  refine lv_iconst (v := 1) hx hb dL_law_289 (by decide) ?_
  refine lv_iadd hx hb dL_law_290 ?_
  refine lv_topi (fun x49 e49 => ?_)
  obtain rfl : x49 = 1 := e49.trans (by decide)
  refine va_sld hx hb hX hbl hbA hS (by unfold vp_in; decide) dL_law_291 ?_
  refine gc_vi (As := [.int ((xs (1 : Int32).toNatClampNeg))]) (rest := [.int ((sp1 ((xs (1 : Int32).toNatClampNeg)) 0 9))]) (w0 := mw cI am mgI mdI mFI ++ ([(qo, .inl (cL, 1, .inr (.inl fo)))] ++ (wfC cI a u48))) (wc := mw cI am mgI mdI mFI) (wr := [(qo, .inl (cL, 1, .inr (.inl fo)))] ++ (wfC cI a u48)) (wf := wfM cI am) ⟨hx, hb, hml, hown, hts⟩ (KL_M hKK) (KM_ok D cI) hP hD hS hA [0, 1, 2, 3, 4, 5, 6] [7, 8, 9, 10, 11, 12, 13, 14, 15, 16, 17, 18, 19] rfl rfl (by decide) (i_X7_use l D cI am _ ((xs (1 : Int32).toNatClampNeg))) (cwV 1 hts gL_law_X7_use rfl rfl rfl (by decide +kernel) ⟨Nat.le_of_ble_eq_true rfl, Nat.le_of_ble_eq_true rfl⟩) (va_recv hK hP (ci := 7) (q0 := 0) rfl rfl) rfl hl.1 rfl (Nat.le_of_ble_eq_true rfl) dL_law_292 ⟨Nat.le_of_ble_eq_true rfl, Nat.le_of_ble_eq_true rfl⟩ (fun r51 u51 H locs hw51 hP hD hS => ?_)
  have hP : va_P D vwCl ([(qo, .inl (cL, 1, .inr (.inl fo)))] ++ (wfC cI a u48 ++ (wfM cI am u51))) H := hP
  have hD : va_D (fun q : Nat => s.heap.size ≤ q) ([(qo, .inl (cL, 1, .inr (.inl fo)))] ++ (wfC cI a u48 ++ (wfM cI am u51))) := hD
  subst hw51
  refine lv_icmp_eq (tgt := 778) hx hb dL_law_295 (by decide) (fun c52 => ?_) (fun c52 => absurd (rfl) c52)
  exact law_end C1 hS (lv_sub hl [0, 1, 2, 3, 4] rfl)
set_option maxHeartbeats 4000000 in
set_option maxRecDepth 100000 in
theorem law_case4 {p : Program} {l : Launch} {e : Env} {s : State} {m : MethodId} {below : List Frame} {meth : Method} {c : Code} {b : Nat} {xs : Nat → Int32} (C0 : lw_At p s m meth c b 5 xs) {D : va_G} {cI cL : ClassId} {a am : Nat → Nat} {qo : Nat} {fo : Nat → Int64} (hKK : KL D cI cL s) {H : Heap} {locs : List Loc} (hP : va_P D vwCl (cw cI a cgI cdI cFI ++ (mw cI am mgI mdI mFI ++ [(qo, .inl (cL, 1, .inr (.inl fo)))])) H) (hD : va_D (fun q : Nat => s.heap.size ≤ q) (cw cI a cgI cdI cFI ++ (mw cI am mgI mdI mFI ++ [(qo, .inl (cL, 1, .inr (.inl fo)))]))) (hS : va_S (fun q : Nat => s.heap.size ≤ q) s.heap H locs) {ls : Array Slot} (hl : lv_has ls 9 [(4, .int 0), (3, .ref qo), (2, .ref (am 0)), (1, .ref (a 0)), (0, .ref b)]) : W p l e room_1 s m #[Value.ref b] below meth c H locs 20 248 (lw_Z below #[Value.ref b] s) (F0 m 300 ls []) := by
  have C1 := C0
  obtain ⟨hx, hb, hr, hml, hown, hts, hX, hbl, hlocks, hgv⟩ := C0
  have hts := fun w h => hts w (wsL_law_in w h)
  have hK := hKK.1
  have hA : ∀ q : Nat, s.heap.size ≤ q → (fun q : Nat => s.heap.size ≤ q) q := fun _ h => h
  have hbA : ¬ (fun q : Nat => s.heap.size ≤ q) b := Nat.not_le.mpr hbl
  refine lv_aload_n hx hb dL_law_300 rfl (lv_at hl 3 rfl) ?_
  refine lv_aload_n hx hb dL_law_301 rfl (lv_at hl 4 rfl) ?_
  refine lv_iload hx hb dL_law_302 (lv_at hl 0 rfl) ?_
  refine lv_iconst (v := 1) hx hb dL_law_304 (by decide) ?_
  refine lv_iadd hx hb dL_law_305 ?_
  refine lv_topi (fun x53 e53 => ?_)
  obtain rfl : x53 = 1 := e53.trans (by decide)
  refine va_sld hx hb hX hbl hbA hS (by unfold vp_in; decide) dL_law_306 ?_
  refine lv_aload_n hx hb dL_law_307 rfl (lv_at hl 4 rfl) ?_
  refine lv_iload hx hb dL_law_308 (lv_at hl 0 rfl) ?_
  refine lv_iconst (v := 2) hx hb dL_law_310 (by decide) ?_
  refine lv_iadd hx hb dL_law_311 ?_
  refine lv_topi (fun x55 e55 => ?_)
  obtain rfl : x55 = 2 := e55.trans (by decide)
  refine va_sld hx hb hX hbl hbA hS (by unfold vp_in; decide) dL_law_312 ?_
  refine lv_aload_n hx hb dL_law_313 rfl (lv_at hl 4 rfl) ?_
  refine lv_iload hx hb dL_law_314 (lv_at hl 0 rfl) ?_
  refine lv_iconst (v := 3) hx hb dL_law_316 (by decide) ?_
  refine lv_iadd hx hb dL_law_317 ?_
  refine lv_topi (fun x57 e57 => ?_)
  obtain rfl : x57 = 3 := e57.trans (by decide)
  refine va_sld hx hb hX hbl hbA hS (by unfold vp_in; decide) dL_law_318 ?_
  refine gc_vi (As := [.int ((xs (1 : Int32).toNatClampNeg)), .int ((xs (2 : Int32).toNatClampNeg)), .int ((xs (3 : Int32).toNatClampNeg))]) (rest := []) (w0 := cw cI a cgI cdI cFI ++ (mw cI am mgI mdI mFI ++ ([(qo, .inl (cL, 1, .inr (.inl fo)))]))) (wc := cw cI a cgI cdI cFI) (wr := mw cI am mgI mdI mFI ++ ([(qo, .inl (cL, 1, .inr (.inl fo)))])) (wf := wfC cI a) ⟨hx, hb, hml, hown, hts⟩ (KL_C hKK) (KC_ok D cI) hP hD hS hA [0, 1, 2, 3, 4, 5, 6, 7, 8, 9, 10, 11] [12, 13, 14, 15, 16, 17, 18, 19] rfl rfl (by decide) (i_X6_limiter l D cI a _ ((xs (1 : Int32).toNatClampNeg)) ((xs (2 : Int32).toNatClampNeg)) ((xs (3 : Int32).toNatClampNeg))) (cwV 3 hts gL_law_X6_limiter rfl rfl rfl (by decide +kernel) ⟨Nat.le_of_ble_eq_true rfl, Nat.le_of_ble_eq_true rfl⟩) (va_recv hK hP (ci := 6) (q0 := 0) rfl rfl) rfl hl.1 rfl (Nat.le_of_ble_eq_true rfl) dL_law_319 ⟨Nat.le_of_ble_eq_true rfl, Nat.le_of_ble_eq_true rfl⟩ (fun r59 u59 H locs hw59 hP hD hS => ?_)
  have hP : va_P D vwCl (mw cI am mgI mdI mFI ++ ([(qo, .inl (cL, 1, .inr (.inl fo)))] ++ (wfC cI a u59))) H := hP
  have hD : va_D (fun q : Nat => s.heap.size ≤ q) (mw cI am mgI mdI mFI ++ ([(qo, .inl (cL, 1, .inr (.inl fo)))] ++ (wfC cI a u59))) := hD
  subst hw59
  refine lv_aload_n hx hb dL_law_322 rfl (lv_at hl 2 rfl) ?_
  refine lv_aload_n hx hb dL_law_323 rfl (lv_at hl 4 rfl) ?_
  refine lv_iload hx hb dL_law_324 (lv_at hl 0 rfl) ?_
  refine lv_iconst (v := 1) hx hb dL_law_326 (by decide) ?_
  refine lv_iadd hx hb dL_law_327 ?_
  refine lv_topi (fun x60 e60 => ?_)
  obtain rfl : x60 = 1 := e60.trans (by decide)
  refine va_sld hx hb hX hbl hbA hS (by unfold vp_in; decide) dL_law_328 ?_
  refine lv_aload_n hx hb dL_law_329 rfl (lv_at hl 4 rfl) ?_
  refine lv_iload hx hb dL_law_330 (lv_at hl 0 rfl) ?_
  refine lv_iconst (v := 2) hx hb dL_law_332 (by decide) ?_
  refine lv_iadd hx hb dL_law_333 ?_
  refine lv_topi (fun x62 e62 => ?_)
  obtain rfl : x62 = 2 := e62.trans (by decide)
  refine va_sld hx hb hX hbl hbA hS (by unfold vp_in; decide) dL_law_334 ?_
  refine lv_aload_n hx hb dL_law_335 rfl (lv_at hl 4 rfl) ?_
  refine lv_iload hx hb dL_law_336 (lv_at hl 0 rfl) ?_
  refine lv_iconst (v := 3) hx hb dL_law_338 (by decide) ?_
  refine lv_iadd hx hb dL_law_339 ?_
  refine lv_topi (fun x64 e64 => ?_)
  obtain rfl : x64 = 3 := e64.trans (by decide)
  refine va_sld hx hb hX hbl hbA hS (by unfold vp_in; decide) dL_law_340 ?_
  refine gc_vi (As := [.int ((xs (1 : Int32).toNatClampNeg)), .int ((xs (2 : Int32).toNatClampNeg)), .int ((xs (3 : Int32).toNatClampNeg))]) (rest := [.int ((sp_lim ((xs (1 : Int32).toNatClampNeg)) ((xs (2 : Int32).toNatClampNeg)) ((xs (3 : Int32).toNatClampNeg))))]) (w0 := mw cI am mgI mdI mFI ++ ([(qo, .inl (cL, 1, .inr (.inl fo)))] ++ (wfC cI a u59))) (wc := mw cI am mgI mdI mFI) (wr := [(qo, .inl (cL, 1, .inr (.inl fo)))] ++ (wfC cI a u59)) (wf := wfM cI am) ⟨hx, hb, hml, hown, hts⟩ (KL_M hKK) (KM_ok D cI) hP hD hS hA [0, 1, 2, 3, 4, 5, 6] [7, 8, 9, 10, 11, 12, 13, 14, 15, 16, 17, 18, 19] rfl rfl (by decide) (i_X7_limiter l D cI am _ ((xs (1 : Int32).toNatClampNeg)) ((xs (2 : Int32).toNatClampNeg)) ((xs (3 : Int32).toNatClampNeg))) (cwV 3 hts gL_law_X7_limiter rfl rfl rfl (by decide +kernel) ⟨Nat.le_of_ble_eq_true rfl, Nat.le_of_ble_eq_true rfl⟩) (va_recv hK hP (ci := 7) (q0 := 0) rfl rfl) rfl hl.1 rfl (Nat.le_of_ble_eq_true rfl) dL_law_341 ⟨Nat.le_of_ble_eq_true rfl, Nat.le_of_ble_eq_true rfl⟩ (fun r66 u66 H locs hw66 hP hD hS => ?_)
  have hP : va_P D vwCl ([(qo, .inl (cL, 1, .inr (.inl fo)))] ++ (wfC cI a u59 ++ (wfM cI am u66))) H := hP
  have hD : va_D (fun q : Nat => s.heap.size ≤ q) ([(qo, .inl (cL, 1, .inr (.inl fo)))] ++ (wfC cI a u59 ++ (wfM cI am u66))) := hD
  subst hw66
  refine lv_icmp_eq (tgt := 778) hx hb dL_law_344 (by decide) (fun c67 => ?_) (fun c67 => absurd (rfl) c67)
  exact law_end C1 hS (lv_sub hl [0, 1, 2, 3, 4] rfl)
set_option maxHeartbeats 4000000 in
set_option maxRecDepth 100000 in
theorem law_case5 {p : Program} {l : Launch} {e : Env} {s : State} {m : MethodId} {below : List Frame} {meth : Method} {c : Code} {b : Nat} {xs : Nat → Int32} (C0 : lw_At p s m meth c b 5 xs) {D : va_G} {cI cL : ClassId} {a am : Nat → Nat} {qo : Nat} {fo : Nat → Int64} (hKK : KL D cI cL s) {H : Heap} {locs : List Loc} (hP : va_P D vwCl (cw cI a cgI cdI cFI ++ (mw cI am mgI mdI mFI ++ [(qo, .inl (cL, 1, .inr (.inl fo)))])) H) (hD : va_D (fun q : Nat => s.heap.size ≤ q) (cw cI a cgI cdI cFI ++ (mw cI am mgI mdI mFI ++ [(qo, .inl (cL, 1, .inr (.inl fo)))]))) (hS : va_S (fun q : Nat => s.heap.size ≤ q) s.heap H locs) {ls : Array Slot} (hl : lv_has ls 9 [(4, .int 0), (3, .ref qo), (2, .ref (am 0)), (1, .ref (a 0)), (0, .ref b)]) : W p l e room_1 s m #[Value.ref b] below meth c H locs 20 248 (lw_Z below #[Value.ref b] s) (F0 m 349 ls []) := by
  have C1 := C0
  obtain ⟨hx, hb, hr, hml, hown, hts, hX, hbl, hlocks, hgv⟩ := C0
  have hts := fun w h => hts w (wsL_law_in w h)
  have hK := hKK.1
  have hA : ∀ q : Nat, s.heap.size ≤ q → (fun q : Nat => s.heap.size ≤ q) q := fun _ h => h
  have hbA : ¬ (fun q : Nat => s.heap.size ≤ q) b := Nat.not_le.mpr hbl
  refine lv_aload_n hx hb dL_law_349 rfl (lv_at hl 3 rfl) ?_
  refine lv_aload_n hx hb dL_law_350 rfl (lv_at hl 4 rfl) ?_
  refine lv_iload hx hb dL_law_351 (lv_at hl 0 rfl) ?_
  refine lv_iconst (v := 1) hx hb dL_law_353 (by decide) ?_
  refine lv_iadd hx hb dL_law_354 ?_
  refine lv_topi (fun x68 e68 => ?_)
  obtain rfl : x68 = 1 := e68.trans (by decide)
  refine va_sld hx hb hX hbl hbA hS (by unfold vp_in; decide) dL_law_355 ?_
  refine lv_aload_n hx hb dL_law_356 rfl (lv_at hl 4 rfl) ?_
  refine lv_iload hx hb dL_law_357 (lv_at hl 0 rfl) ?_
  refine lv_iconst (v := 2) hx hb dL_law_359 (by decide) ?_
  refine lv_iadd hx hb dL_law_360 ?_
  refine lv_topi (fun x70 e70 => ?_)
  obtain rfl : x70 = 2 := e70.trans (by decide)
  refine va_sld hx hb hX hbl hbA hS (by unfold vp_in; decide) dL_law_361 ?_
  refine gc_vi (As := [.int ((xs (1 : Int32).toNatClampNeg)), .int ((xs (2 : Int32).toNatClampNeg))]) (rest := []) (w0 := cw cI a cgI cdI cFI ++ (mw cI am mgI mdI mFI ++ ([(qo, .inl (cL, 1, .inr (.inl fo)))]))) (wc := cw cI a cgI cdI cFI) (wr := mw cI am mgI mdI mFI ++ ([(qo, .inl (cL, 1, .inr (.inl fo)))])) (wf := wfC cI a) ⟨hx, hb, hml, hown, hts⟩ (KL_C hKK) (KC_ok D cI) hP hD hS hA [0, 1, 2, 3, 4, 5, 6, 7, 8, 9, 10, 11] [12, 13, 14, 15, 16, 17, 18, 19] rfl rfl (by decide) (i_X6_retry l D cI a _ ((xs (1 : Int32).toNatClampNeg)) ((xs (2 : Int32).toNatClampNeg))) (cwV 2 hts gL_law_X6_retry rfl rfl rfl (by decide +kernel) ⟨Nat.le_of_ble_eq_true rfl, Nat.le_of_ble_eq_true rfl⟩) (va_recv hK hP (ci := 6) (q0 := 0) rfl rfl) rfl hl.1 rfl (Nat.le_of_ble_eq_true rfl) dL_law_362 ⟨Nat.le_of_ble_eq_true rfl, Nat.le_of_ble_eq_true rfl⟩ (fun r72 u72 H locs hw72 hP hD hS => ?_)
  have hP : va_P D vwCl (mw cI am mgI mdI mFI ++ ([(qo, .inl (cL, 1, .inr (.inl fo)))] ++ (wfC cI a u72))) H := hP
  have hD : va_D (fun q : Nat => s.heap.size ≤ q) (mw cI am mgI mdI mFI ++ ([(qo, .inl (cL, 1, .inr (.inl fo)))] ++ (wfC cI a u72))) := hD
  subst hw72
  refine lv_aload_n hx hb dL_law_365 rfl (lv_at hl 2 rfl) ?_
  refine lv_aload_n hx hb dL_law_366 rfl (lv_at hl 4 rfl) ?_
  refine lv_iload hx hb dL_law_367 (lv_at hl 0 rfl) ?_
  refine lv_iconst (v := 1) hx hb dL_law_369 (by decide) ?_
  refine lv_iadd hx hb dL_law_370 ?_
  refine lv_topi (fun x73 e73 => ?_)
  obtain rfl : x73 = 1 := e73.trans (by decide)
  refine va_sld hx hb hX hbl hbA hS (by unfold vp_in; decide) dL_law_371 ?_
  refine lv_aload_n hx hb dL_law_372 rfl (lv_at hl 4 rfl) ?_
  refine lv_iload hx hb dL_law_373 (lv_at hl 0 rfl) ?_
  refine lv_iconst (v := 2) hx hb dL_law_375 (by decide) ?_
  refine lv_iadd hx hb dL_law_376 ?_
  refine lv_topi (fun x75 e75 => ?_)
  obtain rfl : x75 = 2 := e75.trans (by decide)
  refine va_sld hx hb hX hbl hbA hS (by unfold vp_in; decide) dL_law_377 ?_
  refine gc_vi (As := [.int ((xs (1 : Int32).toNatClampNeg)), .int ((xs (2 : Int32).toNatClampNeg))]) (rest := [.int ((sp_retry ((xs (1 : Int32).toNatClampNeg)) ((xs (2 : Int32).toNatClampNeg))))]) (w0 := mw cI am mgI mdI mFI ++ ([(qo, .inl (cL, 1, .inr (.inl fo)))] ++ (wfC cI a u72))) (wc := mw cI am mgI mdI mFI) (wr := [(qo, .inl (cL, 1, .inr (.inl fo)))] ++ (wfC cI a u72)) (wf := wfM cI am) ⟨hx, hb, hml, hown, hts⟩ (KL_M hKK) (KM_ok D cI) hP hD hS hA [0, 1, 2, 3, 4, 5, 6] [7, 8, 9, 10, 11, 12, 13, 14, 15, 16, 17, 18, 19] rfl rfl (by decide) (i_X7_retry l D cI am _ ((xs (1 : Int32).toNatClampNeg)) ((xs (2 : Int32).toNatClampNeg))) (cwV 2 hts gL_law_X7_retry rfl rfl rfl (by decide +kernel) ⟨Nat.le_of_ble_eq_true rfl, Nat.le_of_ble_eq_true rfl⟩) (va_recv hK hP (ci := 7) (q0 := 0) rfl rfl) rfl hl.1 rfl (Nat.le_of_ble_eq_true rfl) dL_law_378 ⟨Nat.le_of_ble_eq_true rfl, Nat.le_of_ble_eq_true rfl⟩ (fun r77 u77 H locs hw77 hP hD hS => ?_)
  have hP : va_P D vwCl ([(qo, .inl (cL, 1, .inr (.inl fo)))] ++ (wfC cI a u72 ++ (wfM cI am u77))) H := hP
  have hD : va_D (fun q : Nat => s.heap.size ≤ q) ([(qo, .inl (cL, 1, .inr (.inl fo)))] ++ (wfC cI a u72 ++ (wfM cI am u77))) := hD
  subst hw77
  refine lv_icmp_eq (tgt := 778) hx hb dL_law_381 (by decide) (fun c78 => ?_) (fun c78 => absurd (rfl) c78)
  exact law_end C1 hS (lv_sub hl [0, 1, 2, 3, 4] rfl)
set_option maxHeartbeats 4000000 in
set_option maxRecDepth 100000 in
theorem law_case6 {p : Program} {l : Launch} {e : Env} {s : State} {m : MethodId} {below : List Frame} {meth : Method} {c : Code} {b : Nat} {xs : Nat → Int32} (C0 : lw_At p s m meth c b 5 xs) {D : va_G} {cI cL : ClassId} {a am : Nat → Nat} {qo : Nat} {fo : Nat → Int64} (hKK : KL D cI cL s) {H : Heap} {locs : List Loc} (hP : va_P D vwCl (cw cI a cgI cdI cFI ++ (mw cI am mgI mdI mFI ++ [(qo, .inl (cL, 1, .inr (.inl fo)))])) H) (hD : va_D (fun q : Nat => s.heap.size ≤ q) (cw cI a cgI cdI cFI ++ (mw cI am mgI mdI mFI ++ [(qo, .inl (cL, 1, .inr (.inl fo)))]))) (hS : va_S (fun q : Nat => s.heap.size ≤ q) s.heap H locs) {ls : Array Slot} (hl : lv_has ls 9 [(4, .int 0), (3, .ref qo), (2, .ref (am 0)), (1, .ref (a 0)), (0, .ref b)]) : W p l e room_1 s m #[Value.ref b] below meth c H locs 20 248 (lw_Z below #[Value.ref b] s) (F0 m 386 ls []) := by
  have C1 := C0
  obtain ⟨hx, hb, hr, hml, hown, hts, hX, hbl, hlocks, hgv⟩ := C0
  have hts := fun w h => hts w (wsL_law_in w h)
  have hK := hKK.1
  have hA : ∀ q : Nat, s.heap.size ≤ q → (fun q : Nat => s.heap.size ≤ q) q := fun _ h => h
  have hbA : ¬ (fun q : Nat => s.heap.size ≤ q) b := Nat.not_le.mpr hbl
  refine lv_aload_n hx hb dL_law_386 rfl (lv_at hl 3 rfl) ?_
  refine lv_aload_n hx hb dL_law_387 rfl (lv_at hl 4 rfl) ?_
  refine lv_iload hx hb dL_law_388 (lv_at hl 0 rfl) ?_
  refine lv_iconst (v := 1) hx hb dL_law_390 (by decide) ?_
  refine lv_iadd hx hb dL_law_391 ?_
  refine lv_topi (fun x79 e79 => ?_)
  obtain rfl : x79 = 1 := e79.trans (by decide)
  refine va_sld hx hb hX hbl hbA hS (by unfold vp_in; decide) dL_law_392 ?_
  refine lv_i2d hx hb dL_law_393 ?_
  refine lv_ldc2d (v := 4593671619917905920) hx hb hown (hts (.constantDouble RL 34 (4593671619917905920)) (by decide +kernel)) dL_law_394 ?_
  refine lv_dmul hx hb dL_law_397 (n64_eighth _) ?_
  refine lv_aload_n hx hb dL_law_398 rfl (lv_at hl 4 rfl) ?_
  refine lv_iload hx hb dL_law_399 (lv_at hl 0 rfl) ?_
  refine lv_iconst (v := 2) hx hb dL_law_401 (by decide) ?_
  refine lv_iadd hx hb dL_law_402 ?_
  refine lv_topi (fun x82 e82 => ?_)
  obtain rfl : x82 = 2 := e82.trans (by decide)
  refine va_sld hx hb hX hbl hbA hS (by unfold vp_in; decide) dL_law_403 ?_
  refine lv_i2d hx hb dL_law_404 ?_
  refine lv_ldc2d (v := 4593671619917905920) hx hb hown (hts (.constantDouble RL 34 (4593671619917905920)) (by decide +kernel)) dL_law_405 ?_
  refine lv_dmul hx hb dL_law_408 (n64_eighth _) ?_
  refine lv_aload_n hx hb dL_law_409 rfl (lv_at hl 4 rfl) ?_
  refine lv_iload hx hb dL_law_410 (lv_at hl 0 rfl) ?_
  refine lv_iconst (v := 3) hx hb dL_law_412 (by decide) ?_
  refine lv_iadd hx hb dL_law_413 ?_
  refine lv_topi (fun x85 e85 => ?_)
  obtain rfl : x85 = 3 := e85.trans (by decide)
  refine va_sld hx hb hX hbl hbA hS (by unfold vp_in; decide) dL_law_414 ?_
  refine lv_i2d hx hb dL_law_415 ?_
  refine lv_ldc2d (v := 4593671619917905920) hx hb hown (hts (.constantDouble RL 34 (4593671619917905920)) (by decide +kernel)) dL_law_416 ?_
  refine lv_dmul hx hb dL_law_419 (n64_eighth _) ?_
  refine gc_vi (As := [.double ((FP.dmul (FP.i2d (xs (1 : Int32).toNatClampNeg)) 4593671619917905920)), .double ((FP.dmul (FP.i2d (xs (2 : Int32).toNatClampNeg)) 4593671619917905920)), .double ((FP.dmul (FP.i2d (xs (3 : Int32).toNatClampNeg)) 4593671619917905920))]) (rest := []) (w0 := cw cI a cgI cdI cFI ++ (mw cI am mgI mdI mFI ++ ([(qo, .inl (cL, 1, .inr (.inl fo)))]))) (wc := cw cI a cgI cdI cFI) (wr := mw cI am mgI mdI mFI ++ ([(qo, .inl (cL, 1, .inr (.inl fo)))])) (wf := wfC cI a) ⟨hx, hb, hml, hown, hts⟩ (KL_C hKK) (KC_ok D cI) hP hD hS hA [0, 1, 2, 3, 4, 5, 6, 7, 8, 9, 10, 11] [12, 13, 14, 15, 16, 17, 18, 19] rfl rfl (by decide) (i_X6_backoff l D cI a _ ((FP.dmul (FP.i2d (xs (1 : Int32).toNatClampNeg)) 4593671619917905920)) ((FP.dmul (FP.i2d (xs (2 : Int32).toNatClampNeg)) 4593671619917905920)) ((FP.dmul (FP.i2d (xs (3 : Int32).toNatClampNeg)) 4593671619917905920))) (cwV 3 hts gL_law_X6_backoff rfl rfl rfl (by decide +kernel) ⟨Nat.le_of_ble_eq_true rfl, Nat.le_of_ble_eq_true rfl⟩) (va_recv hK hP (ci := 6) (q0 := 0) rfl rfl) rfl hl.1 rfl (Nat.le_of_ble_eq_true rfl) dL_law_420 ⟨Nat.le_of_ble_eq_true rfl, Nat.le_of_ble_eq_true rfl⟩ (fun r88 u88 H locs hw88 hP hD hS => ?_)
  have hP : va_P D vwCl (mw cI am mgI mdI mFI ++ ([(qo, .inl (cL, 1, .inr (.inl fo)))] ++ (wfC cI a u88))) H := hP
  have hD : va_D (fun q : Nat => s.heap.size ≤ q) (mw cI am mgI mdI mFI ++ ([(qo, .inl (cL, 1, .inr (.inl fo)))] ++ (wfC cI a u88))) := hD
  subst hw88
  refine lv_aload_n hx hb dL_law_423 rfl (lv_at hl 2 rfl) ?_
  refine lv_aload_n hx hb dL_law_424 rfl (lv_at hl 4 rfl) ?_
  refine lv_iload hx hb dL_law_425 (lv_at hl 0 rfl) ?_
  refine lv_iconst (v := 1) hx hb dL_law_427 (by decide) ?_
  refine lv_iadd hx hb dL_law_428 ?_
  refine lv_topi (fun x89 e89 => ?_)
  obtain rfl : x89 = 1 := e89.trans (by decide)
  refine va_sld hx hb hX hbl hbA hS (by unfold vp_in; decide) dL_law_429 ?_
  refine lv_i2d hx hb dL_law_430 ?_
  refine lv_ldc2d (v := 4593671619917905920) hx hb hown (hts (.constantDouble RL 34 (4593671619917905920)) (by decide +kernel)) dL_law_431 ?_
  refine lv_dmul hx hb dL_law_434 (n64_eighth _) ?_
  refine lv_aload_n hx hb dL_law_435 rfl (lv_at hl 4 rfl) ?_
  refine lv_iload hx hb dL_law_436 (lv_at hl 0 rfl) ?_
  refine lv_iconst (v := 2) hx hb dL_law_438 (by decide) ?_
  refine lv_iadd hx hb dL_law_439 ?_
  refine lv_topi (fun x92 e92 => ?_)
  obtain rfl : x92 = 2 := e92.trans (by decide)
  refine va_sld hx hb hX hbl hbA hS (by unfold vp_in; decide) dL_law_440 ?_
  refine lv_i2d hx hb dL_law_441 ?_
  refine lv_ldc2d (v := 4593671619917905920) hx hb hown (hts (.constantDouble RL 34 (4593671619917905920)) (by decide +kernel)) dL_law_442 ?_
  refine lv_dmul hx hb dL_law_445 (n64_eighth _) ?_
  refine lv_aload_n hx hb dL_law_446 rfl (lv_at hl 4 rfl) ?_
  refine lv_iload hx hb dL_law_447 (lv_at hl 0 rfl) ?_
  refine lv_iconst (v := 3) hx hb dL_law_449 (by decide) ?_
  refine lv_iadd hx hb dL_law_450 ?_
  refine lv_topi (fun x95 e95 => ?_)
  obtain rfl : x95 = 3 := e95.trans (by decide)
  refine va_sld hx hb hX hbl hbA hS (by unfold vp_in; decide) dL_law_451 ?_
  refine lv_i2d hx hb dL_law_452 ?_
  refine lv_ldc2d (v := 4593671619917905920) hx hb hown (hts (.constantDouble RL 34 (4593671619917905920)) (by decide +kernel)) dL_law_453 ?_
  refine lv_dmul hx hb dL_law_456 (n64_eighth _) ?_
  refine gc_vi (As := [.double ((FP.dmul (FP.i2d (xs (1 : Int32).toNatClampNeg)) 4593671619917905920)), .double ((FP.dmul (FP.i2d (xs (2 : Int32).toNatClampNeg)) 4593671619917905920)), .double ((FP.dmul (FP.i2d (xs (3 : Int32).toNatClampNeg)) 4593671619917905920))]) (rest := [.int ((sp_back ((FP.dmul (FP.i2d (xs (1 : Int32).toNatClampNeg)) 4593671619917905920)) ((FP.dmul (FP.i2d (xs (2 : Int32).toNatClampNeg)) 4593671619917905920)) ((FP.dmul (FP.i2d (xs (3 : Int32).toNatClampNeg)) 4593671619917905920))))]) (w0 := mw cI am mgI mdI mFI ++ ([(qo, .inl (cL, 1, .inr (.inl fo)))] ++ (wfC cI a u88))) (wc := mw cI am mgI mdI mFI) (wr := [(qo, .inl (cL, 1, .inr (.inl fo)))] ++ (wfC cI a u88)) (wf := wfM cI am) ⟨hx, hb, hml, hown, hts⟩ (KL_M hKK) (KM_ok D cI) hP hD hS hA [0, 1, 2, 3, 4, 5, 6] [7, 8, 9, 10, 11, 12, 13, 14, 15, 16, 17, 18, 19] rfl rfl (by decide) (i_X7_backoff l D cI am _ ((FP.dmul (FP.i2d (xs (1 : Int32).toNatClampNeg)) 4593671619917905920)) ((FP.dmul (FP.i2d (xs (2 : Int32).toNatClampNeg)) 4593671619917905920)) ((FP.dmul (FP.i2d (xs (3 : Int32).toNatClampNeg)) 4593671619917905920))) (cwV 3 hts gL_law_X7_backoff rfl rfl rfl (by decide +kernel) ⟨Nat.le_of_ble_eq_true rfl, Nat.le_of_ble_eq_true rfl⟩) (va_recv hK hP (ci := 7) (q0 := 0) rfl rfl) rfl hl.1 rfl (Nat.le_of_ble_eq_true rfl) dL_law_457 ⟨Nat.le_of_ble_eq_true rfl, Nat.le_of_ble_eq_true rfl⟩ (fun r98 u98 H locs hw98 hP hD hS => ?_)
  have hP : va_P D vwCl ([(qo, .inl (cL, 1, .inr (.inl fo)))] ++ (wfC cI a u88 ++ (wfM cI am u98))) H := hP
  have hD : va_D (fun q : Nat => s.heap.size ≤ q) ([(qo, .inl (cL, 1, .inr (.inl fo)))] ++ (wfC cI a u88 ++ (wfM cI am u98))) := hD
  subst hw98
  refine lv_icmp_eq (tgt := 778) hx hb dL_law_460 (by decide) (fun c99 => ?_) (fun c99 => absurd (rfl) c99)
  exact law_end C1 hS (lv_sub hl [0, 1, 2, 3, 4] rfl)
set_option maxHeartbeats 4000000 in
set_option maxRecDepth 100000 in
theorem law_case7 {p : Program} {l : Launch} {e : Env} {s : State} {m : MethodId} {below : List Frame} {meth : Method} {c : Code} {b : Nat} {xs : Nat → Int32} (C0 : lw_At p s m meth c b 5 xs) {D : va_G} {cI cL : ClassId} {a am : Nat → Nat} {qo : Nat} {fo : Nat → Int64} (hKK : KL D cI cL s) {H : Heap} {locs : List Loc} (hP : va_P D vwCl (cw cI a cgI cdI cFI ++ (mw cI am mgI mdI mFI ++ [(qo, .inl (cL, 1, .inr (.inl fo)))])) H) (hD : va_D (fun q : Nat => s.heap.size ≤ q) (cw cI a cgI cdI cFI ++ (mw cI am mgI mdI mFI ++ [(qo, .inl (cL, 1, .inr (.inl fo)))]))) (hS : va_S (fun q : Nat => s.heap.size ≤ q) s.heap H locs) {ls : Array Slot} (hl : lv_has ls 9 [(4, .int 0), (3, .ref qo), (2, .ref (am 0)), (1, .ref (a 0)), (0, .ref b)]) : W p l e room_1 s m #[Value.ref b] below meth c H locs 20 248 (lw_Z below #[Value.ref b] s) (F0 m 465 ls []) := by
  have C1 := C0
  obtain ⟨hx, hb, hr, hml, hown, hts, hX, hbl, hlocks, hgv⟩ := C0
  have hts := fun w h => hts w (wsL_law_in w h)
  have hK := hKK.1
  have hA : ∀ q : Nat, s.heap.size ≤ q → (fun q : Nat => s.heap.size ≤ q) q := fun _ h => h
  have hbA : ¬ (fun q : Nat => s.heap.size ≤ q) b := Nat.not_le.mpr hbl
  refine lv_aload_n hx hb dL_law_465 rfl (lv_at hl 3 rfl) ?_
  refine lv_aload_n hx hb dL_law_466 rfl (lv_at hl 4 rfl) ?_
  refine lv_iload hx hb dL_law_467 (lv_at hl 0 rfl) ?_
  refine lv_iconst (v := 1) hx hb dL_law_469 (by decide) ?_
  refine lv_iadd hx hb dL_law_470 ?_
  refine lv_topi (fun x100 e100 => ?_)
  obtain rfl : x100 = 1 := e100.trans (by decide)
  refine va_sld hx hb hX hbl hbA hS (by unfold vp_in; decide) dL_law_471 ?_
  refine gc_vi (As := [.int ((xs (1 : Int32).toNatClampNeg))]) (rest := []) (w0 := cw cI a cgI cdI cFI ++ (mw cI am mgI mdI mFI ++ ([(qo, .inl (cL, 1, .inr (.inl fo)))]))) (wc := cw cI a cgI cdI cFI) (wr := mw cI am mgI mdI mFI ++ ([(qo, .inl (cL, 1, .inr (.inl fo)))])) (wf := wfC cI a) ⟨hx, hb, hml, hown, hts⟩ (KL_C hKK) (KC_ok D cI) hP hD hS hA [0, 1, 2, 3, 4, 5, 6, 7, 8, 9, 10, 11] [12, 13, 14, 15, 16, 17, 18, 19] rfl rfl (by decide) (i_X6_timer l D cI a _ ((xs (1 : Int32).toNatClampNeg))) (cwV 1 hts gL_law_X6_timer rfl rfl rfl (by decide +kernel) ⟨Nat.le_of_ble_eq_true rfl, Nat.le_of_ble_eq_true rfl⟩) (va_recv hK hP (ci := 6) (q0 := 0) rfl rfl) rfl hl.1 rfl (Nat.le_of_ble_eq_true rfl) dL_law_472 ⟨Nat.le_of_ble_eq_true rfl, Nat.le_of_ble_eq_true rfl⟩ (fun r102 u102 H locs hw102 hP hD hS => ?_)
  have hP : va_P D vwCl (mw cI am mgI mdI mFI ++ ([(qo, .inl (cL, 1, .inr (.inl fo)))] ++ (wfC cI a u102))) H := hP
  have hD : va_D (fun q : Nat => s.heap.size ≤ q) (mw cI am mgI mdI mFI ++ ([(qo, .inl (cL, 1, .inr (.inl fo)))] ++ (wfC cI a u102))) := hD
  subst hw102
  refine lv_aload_n hx hb dL_law_475 rfl (lv_at hl 2 rfl) ?_
  refine lv_aload_n hx hb dL_law_476 rfl (lv_at hl 4 rfl) ?_
  refine lv_iload hx hb dL_law_477 (lv_at hl 0 rfl) ?_
  refine lv_iconst (v := 1) hx hb dL_law_479 (by decide) ?_
  refine lv_iadd hx hb dL_law_480 ?_
  refine lv_topi (fun x103 e103 => ?_)
  obtain rfl : x103 = 1 := e103.trans (by decide)
  refine va_sld hx hb hX hbl hbA hS (by unfold vp_in; decide) dL_law_481 ?_
  refine gc_vi (As := [.int ((xs (1 : Int32).toNatClampNeg))]) (rest := [.int ((sp1 ((xs (1 : Int32).toNatClampNeg)) 0 100))]) (w0 := mw cI am mgI mdI mFI ++ ([(qo, .inl (cL, 1, .inr (.inl fo)))] ++ (wfC cI a u102))) (wc := mw cI am mgI mdI mFI) (wr := [(qo, .inl (cL, 1, .inr (.inl fo)))] ++ (wfC cI a u102)) (wf := wfM cI am) ⟨hx, hb, hml, hown, hts⟩ (KL_M hKK) (KM_ok D cI) hP hD hS hA [0, 1, 2, 3, 4, 5, 6] [7, 8, 9, 10, 11, 12, 13, 14, 15, 16, 17, 18, 19] rfl rfl (by decide) (i_X7_timer l D cI am _ ((xs (1 : Int32).toNatClampNeg))) (cwV 1 hts gL_law_X7_timer rfl rfl rfl (by decide +kernel) ⟨Nat.le_of_ble_eq_true rfl, Nat.le_of_ble_eq_true rfl⟩) (va_recv hK hP (ci := 7) (q0 := 0) rfl rfl) rfl hl.1 rfl (Nat.le_of_ble_eq_true rfl) dL_law_482 ⟨Nat.le_of_ble_eq_true rfl, Nat.le_of_ble_eq_true rfl⟩ (fun r105 u105 H locs hw105 hP hD hS => ?_)
  have hP : va_P D vwCl ([(qo, .inl (cL, 1, .inr (.inl fo)))] ++ (wfC cI a u102 ++ (wfM cI am u105))) H := hP
  have hD : va_D (fun q : Nat => s.heap.size ≤ q) ([(qo, .inl (cL, 1, .inr (.inl fo)))] ++ (wfC cI a u102 ++ (wfM cI am u105))) := hD
  subst hw105
  refine lv_icmp_eq (tgt := 778) hx hb dL_law_485 (by decide) (fun c106 => ?_) (fun c106 => absurd (rfl) c106)
  exact law_end C1 hS (lv_sub hl [0, 1, 2, 3, 4] rfl)
set_option maxHeartbeats 4000000 in
set_option maxRecDepth 100000 in
theorem law_case8 {p : Program} {l : Launch} {e : Env} {s : State} {m : MethodId} {below : List Frame} {meth : Method} {c : Code} {b : Nat} {xs : Nat → Int32} (C0 : lw_At p s m meth c b 5 xs) {D : va_G} {cI cL : ClassId} {a am : Nat → Nat} {qo : Nat} {fo : Nat → Int64} (hKK : KL D cI cL s) {H : Heap} {locs : List Loc} (hP : va_P D vwCl (cw cI a cgI cdI cFI ++ (mw cI am mgI mdI mFI ++ [(qo, .inl (cL, 1, .inr (.inl fo)))])) H) (hD : va_D (fun q : Nat => s.heap.size ≤ q) (cw cI a cgI cdI cFI ++ (mw cI am mgI mdI mFI ++ [(qo, .inl (cL, 1, .inr (.inl fo)))]))) (hS : va_S (fun q : Nat => s.heap.size ≤ q) s.heap H locs) {ls : Array Slot} (hl : lv_has ls 9 [(4, .int 0), (3, .ref qo), (2, .ref (am 0)), (1, .ref (a 0)), (0, .ref b)]) : W p l e room_1 s m #[Value.ref b] below meth c H locs 20 248 (lw_Z below #[Value.ref b] s) (F0 m 490 ls []) := by
  have C1 := C0
  obtain ⟨hx, hb, hr, hml, hown, hts, hX, hbl, hlocks, hgv⟩ := C0
  have hts := fun w h => hts w (wsL_law_in w h)
  have hK := hKK.1
  have hA : ∀ q : Nat, s.heap.size ≤ q → (fun q : Nat => s.heap.size ≤ q) q := fun _ h => h
  have hbA : ¬ (fun q : Nat => s.heap.size ≤ q) b := Nat.not_le.mpr hbl
  refine lv_aload_n hx hb dL_law_490 rfl (lv_at hl 3 rfl) ?_
  refine lv_aload_n hx hb dL_law_491 rfl (lv_at hl 4 rfl) ?_
  refine lv_iload hx hb dL_law_492 (lv_at hl 0 rfl) ?_
  refine lv_iconst (v := 1) hx hb dL_law_494 (by decide) ?_
  refine lv_iadd hx hb dL_law_495 ?_
  refine lv_topi (fun x107 e107 => ?_)
  obtain rfl : x107 = 1 := e107.trans (by decide)
  refine va_sld hx hb hX hbl hbA hS (by unfold vp_in; decide) dL_law_496 ?_
  refine gc_vi (As := [.int ((xs (1 : Int32).toNatClampNeg))]) (rest := []) (w0 := cw cI a cgI cdI cFI ++ (mw cI am mgI mdI mFI ++ ([(qo, .inl (cL, 1, .inr (.inl fo)))]))) (wc := cw cI a cgI cdI cFI) (wr := mw cI am mgI mdI mFI ++ ([(qo, .inl (cL, 1, .inr (.inl fo)))])) (wf := wfC cI a) ⟨hx, hb, hml, hown, hts⟩ (KL_C hKK) (KC_ok D cI) hP hD hS hA [0, 1, 2, 3, 4, 5, 6, 7, 8, 9, 10, 11] [12, 13, 14, 15, 16, 17, 18, 19] rfl rfl (by decide) (i_X6_lay l D cI a _ ((xs (1 : Int32).toNatClampNeg))) (cwV 1 hts gL_law_X6_lay rfl rfl rfl (by decide +kernel) ⟨Nat.le_of_ble_eq_true rfl, Nat.le_of_ble_eq_true rfl⟩) (va_recv hK hP (ci := 6) (q0 := 0) rfl rfl) rfl hl.1 rfl (Nat.le_of_ble_eq_true rfl) dL_law_497 ⟨Nat.le_of_ble_eq_true rfl, Nat.le_of_ble_eq_true rfl⟩ (fun r109 u109 H locs hw109 hP hD hS => ?_)
  have hP : va_P D vwCl (mw cI am mgI mdI mFI ++ ([(qo, .inl (cL, 1, .inr (.inl fo)))] ++ (wfC cI a u109))) H := hP
  have hD : va_D (fun q : Nat => s.heap.size ≤ q) (mw cI am mgI mdI mFI ++ ([(qo, .inl (cL, 1, .inr (.inl fo)))] ++ (wfC cI a u109))) := hD
  subst hw109
  refine lv_aload_n hx hb dL_law_500 rfl (lv_at hl 2 rfl) ?_
  refine lv_aload_n hx hb dL_law_501 rfl (lv_at hl 4 rfl) ?_
  refine lv_iload hx hb dL_law_502 (lv_at hl 0 rfl) ?_
  refine lv_iconst (v := 1) hx hb dL_law_504 (by decide) ?_
  refine lv_iadd hx hb dL_law_505 ?_
  refine lv_topi (fun x110 e110 => ?_)
  obtain rfl : x110 = 1 := e110.trans (by decide)
  refine va_sld hx hb hX hbl hbA hS (by unfold vp_in; decide) dL_law_506 ?_
  refine gc_vi (As := [.int ((xs (1 : Int32).toNatClampNeg))]) (rest := [.int ((sp_lay0 ((xs (1 : Int32).toNatClampNeg))))]) (w0 := mw cI am mgI mdI mFI ++ ([(qo, .inl (cL, 1, .inr (.inl fo)))] ++ (wfC cI a u109))) (wc := mw cI am mgI mdI mFI) (wr := [(qo, .inl (cL, 1, .inr (.inl fo)))] ++ (wfC cI a u109)) (wf := wfM cI am) ⟨hx, hb, hml, hown, hts⟩ (KL_M hKK) (KM_ok D cI) hP hD hS hA [0, 1, 2, 3, 4, 5, 6] [7, 8, 9, 10, 11, 12, 13, 14, 15, 16, 17, 18, 19] rfl rfl (by decide) (i_X7_lay l D cI am _ ((xs (1 : Int32).toNatClampNeg))) (cwV 1 hts gL_law_X7_lay rfl rfl rfl (by decide +kernel) ⟨Nat.le_of_ble_eq_true rfl, Nat.le_of_ble_eq_true rfl⟩) (va_recv hK hP (ci := 7) (q0 := 0) rfl rfl) rfl hl.1 rfl (Nat.le_of_ble_eq_true rfl) dL_law_507 ⟨Nat.le_of_ble_eq_true rfl, Nat.le_of_ble_eq_true rfl⟩ (fun r112 u112 H locs hw112 hP hD hS => ?_)
  have hP : va_P D vwCl ([(qo, .inl (cL, 1, .inr (.inl fo)))] ++ (wfC cI a u109 ++ (wfM cI am u112))) H := hP
  have hD : va_D (fun q : Nat => s.heap.size ≤ q) ([(qo, .inl (cL, 1, .inr (.inl fo)))] ++ (wfC cI a u109 ++ (wfM cI am u112))) := hD
  subst hw112
  refine lv_icmp_eq (tgt := 778) hx hb dL_law_510 (by decide) (fun c113 => ?_) (fun c113 => absurd (rfl) c113)
  exact law_end C1 hS (lv_sub hl [0, 1, 2, 3, 4] rfl)
set_option maxHeartbeats 4000000 in
set_option maxRecDepth 100000 in
theorem law_case9 {p : Program} {l : Launch} {e : Env} {s : State} {m : MethodId} {below : List Frame} {meth : Method} {c : Code} {b : Nat} {xs : Nat → Int32} (C0 : lw_At p s m meth c b 5 xs) {D : va_G} {cI cL : ClassId} {a am : Nat → Nat} {qo : Nat} {fo : Nat → Int64} (hKK : KL D cI cL s) {H : Heap} {locs : List Loc} (hP : va_P D vwCl (cw cI a cgI cdI cFI ++ (mw cI am mgI mdI mFI ++ [(qo, .inl (cL, 1, .inr (.inl fo)))])) H) (hD : va_D (fun q : Nat => s.heap.size ≤ q) (cw cI a cgI cdI cFI ++ (mw cI am mgI mdI mFI ++ [(qo, .inl (cL, 1, .inr (.inl fo)))]))) (hS : va_S (fun q : Nat => s.heap.size ≤ q) s.heap H locs) {ls : Array Slot} (hl : lv_has ls 9 [(4, .int 0), (3, .ref qo), (2, .ref (am 0)), (1, .ref (a 0)), (0, .ref b)]) : W p l e room_1 s m #[Value.ref b] below meth c H locs 20 248 (lw_Z below #[Value.ref b] s) (F0 m 515 ls []) := by
  have C1 := C0
  obtain ⟨hx, hb, hr, hml, hown, hts, hX, hbl, hlocks, hgv⟩ := C0
  have hts := fun w h => hts w (wsL_law_in w h)
  have hK := hKK.1
  have hA : ∀ q : Nat, s.heap.size ≤ q → (fun q : Nat => s.heap.size ≤ q) q := fun _ h => h
  have hbA : ¬ (fun q : Nat => s.heap.size ≤ q) b := Nat.not_le.mpr hbl
  refine lv_aload_n hx hb dL_law_515 rfl (lv_at hl 3 rfl) ?_
  refine gc_vi (As := []) (rest := []) (w0 := cw cI a cgI cdI cFI ++ (mw cI am mgI mdI mFI ++ ([(qo, .inl (cL, 1, .inr (.inl fo)))]))) (wc := cw cI a cgI cdI cFI) (wr := mw cI am mgI mdI mFI ++ ([(qo, .inl (cL, 1, .inr (.inl fo)))])) (wf := wfC cI a) ⟨hx, hb, hml, hown, hts⟩ (KL_C hKK) (KC_ok D cI) hP hD hS hA [0, 1, 2, 3, 4, 5, 6, 7, 8, 9, 10, 11] [12, 13, 14, 15, 16, 17, 18, 19] rfl rfl (by decide) (i_X6_strip l D cI a _) (cwV 0 hts gL_law_X6_strip rfl rfl rfl (by decide +kernel) ⟨Nat.le_of_ble_eq_true rfl, Nat.le_of_ble_eq_true rfl⟩) (va_recv hK hP (ci := 6) (q0 := 0) rfl rfl) rfl hl.1 rfl (Nat.le_of_ble_eq_true rfl) dL_law_516 ⟨Nat.le_of_ble_eq_true rfl, Nat.le_of_ble_eq_true rfl⟩ (fun r114 u114 H locs hw114 hP hD hS => ?_)
  have hP : va_P D vwCl (mw cI am mgI mdI mFI ++ ([(qo, .inl (cL, 1, .inr (.inl fo)))] ++ (wfC cI a u114))) H := hP
  have hD : va_D (fun q : Nat => s.heap.size ≤ q) (mw cI am mgI mdI mFI ++ ([(qo, .inl (cL, 1, .inr (.inl fo)))] ++ (wfC cI a u114))) := hD
  subst hw114
  refine lv_aload_n hx hb dL_law_519 rfl (lv_at hl 2 rfl) ?_
  refine gc_vi (As := []) (rest := [.int 0]) (w0 := mw cI am mgI mdI mFI ++ ([(qo, .inl (cL, 1, .inr (.inl fo)))] ++ (wfC cI a u114))) (wc := mw cI am mgI mdI mFI) (wr := [(qo, .inl (cL, 1, .inr (.inl fo)))] ++ (wfC cI a u114)) (wf := wfM cI am) ⟨hx, hb, hml, hown, hts⟩ (KL_M hKK) (KM_ok D cI) hP hD hS hA [0, 1, 2, 3, 4, 5, 6] [7, 8, 9, 10, 11, 12, 13, 14, 15, 16, 17, 18, 19] rfl rfl (by decide) (i_X7_strip l D cI am _) (cwV 0 hts gL_law_X7_strip rfl rfl rfl (by decide +kernel) ⟨Nat.le_of_ble_eq_true rfl, Nat.le_of_ble_eq_true rfl⟩) (va_recv hK hP (ci := 7) (q0 := 0) rfl rfl) rfl hl.1 rfl (Nat.le_of_ble_eq_true rfl) dL_law_520 ⟨Nat.le_of_ble_eq_true rfl, Nat.le_of_ble_eq_true rfl⟩ (fun r115 u115 H locs hw115 hP hD hS => ?_)
  have hP : va_P D vwCl ([(qo, .inl (cL, 1, .inr (.inl fo)))] ++ (wfC cI a u114 ++ (wfM cI am u115))) H := hP
  have hD : va_D (fun q : Nat => s.heap.size ≤ q) ([(qo, .inl (cL, 1, .inr (.inl fo)))] ++ (wfC cI a u114 ++ (wfM cI am u115))) := hD
  subst hw115
  refine lv_icmp_eq (tgt := 778) hx hb dL_law_523 (by decide) (fun c116 => ?_) (fun c116 => absurd (rfl) c116)
  exact law_end C1 hS (lv_sub hl [0, 1, 2, 3, 4] rfl)
set_option maxHeartbeats 4000000 in
set_option maxRecDepth 100000 in
theorem law_case10 {p : Program} {l : Launch} {e : Env} {s : State} {m : MethodId} {below : List Frame} {meth : Method} {c : Code} {b : Nat} {xs : Nat → Int32} (C0 : lw_At p s m meth c b 5 xs) {D : va_G} {cI cL : ClassId} {a am : Nat → Nat} {qo : Nat} {fo : Nat → Int64} (hKK : KL D cI cL s) {H : Heap} {locs : List Loc} (hP : va_P D vwCl (cw cI a cgI cdI cFI ++ (mw cI am mgI mdI mFI ++ [(qo, .inl (cL, 1, .inr (.inl fo)))])) H) (hD : va_D (fun q : Nat => s.heap.size ≤ q) (cw cI a cgI cdI cFI ++ (mw cI am mgI mdI mFI ++ [(qo, .inl (cL, 1, .inr (.inl fo)))]))) (hS : va_S (fun q : Nat => s.heap.size ≤ q) s.heap H locs) {ls : Array Slot} (hl : lv_has ls 9 [(4, .int 0), (3, .ref qo), (2, .ref (am 0)), (1, .ref (a 0)), (0, .ref b)]) : W p l e room_1 s m #[Value.ref b] below meth c H locs 20 248 (lw_Z below #[Value.ref b] s) (F0 m 528 ls []) := by
  have C1 := C0
  obtain ⟨hx, hb, hr, hml, hown, hts, hX, hbl, hlocks, hgv⟩ := C0
  have hts := fun w h => hts w (wsL_law_in w h)
  have hK := hKK.1
  have hA : ∀ q : Nat, s.heap.size ≤ q → (fun q : Nat => s.heap.size ≤ q) q := fun _ h => h
  have hbA : ¬ (fun q : Nat => s.heap.size ≤ q) b := Nat.not_le.mpr hbl
  refine lv_aload_n hx hb dL_law_528 rfl (lv_at hl 3 rfl) ?_
  refine lv_aload_n hx hb dL_law_529 rfl (lv_at hl 4 rfl) ?_
  refine lv_iload hx hb dL_law_530 (lv_at hl 0 rfl) ?_
  refine lv_iconst (v := 1) hx hb dL_law_532 (by decide) ?_
  refine lv_iadd hx hb dL_law_533 ?_
  refine lv_topi (fun x117 e117 => ?_)
  obtain rfl : x117 = 1 := e117.trans (by decide)
  refine va_sld hx hb hX hbl hbA hS (by unfold vp_in; decide) dL_law_534 ?_
  refine lv_aload_n hx hb dL_law_535 rfl (lv_at hl 4 rfl) ?_
  refine lv_iload hx hb dL_law_536 (lv_at hl 0 rfl) ?_
  refine lv_iconst (v := 2) hx hb dL_law_538 (by decide) ?_
  refine lv_iadd hx hb dL_law_539 ?_
  refine lv_topi (fun x119 e119 => ?_)
  obtain rfl : x119 = 2 := e119.trans (by decide)
  refine va_sld hx hb hX hbl hbA hS (by unfold vp_in; decide) dL_law_540 ?_
  refine lv_aload_n hx hb dL_law_541 rfl (lv_at hl 4 rfl) ?_
  refine lv_iload hx hb dL_law_542 (lv_at hl 0 rfl) ?_
  refine lv_iconst (v := 3) hx hb dL_law_544 (by decide) ?_
  refine lv_iadd hx hb dL_law_545 ?_
  refine lv_topi (fun x121 e121 => ?_)
  obtain rfl : x121 = 3 := e121.trans (by decide)
  refine va_sld hx hb hX hbl hbA hS (by unfold vp_in; decide) dL_law_546 ?_
  refine gc_vi (As := [.int ((xs (1 : Int32).toNatClampNeg)), .int ((xs (2 : Int32).toNatClampNeg)), .int ((xs (3 : Int32).toNatClampNeg))]) (rest := []) (w0 := cw cI a cgI cdI cFI ++ (mw cI am mgI mdI mFI ++ ([(qo, .inl (cL, 1, .inr (.inl fo)))]))) (wc := cw cI a cgI cdI cFI) (wr := mw cI am mgI mdI mFI ++ ([(qo, .inl (cL, 1, .inr (.inl fo)))])) (wf := wfC cI a) ⟨hx, hb, hml, hown, hts⟩ (KL_C hKK) (KC_ok D cI) hP hD hS hA [0, 1, 2, 3, 4, 5, 6, 7, 8, 9, 10, 11] [12, 13, 14, 15, 16, 17, 18, 19] rfl rfl (by decide) (i_X6_outcome l D cI a _ ((xs (1 : Int32).toNatClampNeg)) ((xs (2 : Int32).toNatClampNeg)) ((xs (3 : Int32).toNatClampNeg))) (cwV 3 hts gL_law_X6_outcome rfl rfl rfl (by decide +kernel) ⟨Nat.le_of_ble_eq_true rfl, Nat.le_of_ble_eq_true rfl⟩) (va_recv hK hP (ci := 6) (q0 := 0) rfl rfl) rfl hl.1 rfl (Nat.le_of_ble_eq_true rfl) dL_law_547 ⟨Nat.le_of_ble_eq_true rfl, Nat.le_of_ble_eq_true rfl⟩ (fun r123 u123 H locs hw123 hP hD hS => ?_)
  have hP : va_P D vwCl (mw cI am mgI mdI mFI ++ ([(qo, .inl (cL, 1, .inr (.inl fo)))] ++ (wfC cI a u123))) H := hP
  have hD : va_D (fun q : Nat => s.heap.size ≤ q) (mw cI am mgI mdI mFI ++ ([(qo, .inl (cL, 1, .inr (.inl fo)))] ++ (wfC cI a u123))) := hD
  subst hw123
  refine lv_aload_n hx hb dL_law_550 rfl (lv_at hl 2 rfl) ?_
  refine lv_aload_n hx hb dL_law_551 rfl (lv_at hl 4 rfl) ?_
  refine lv_iload hx hb dL_law_552 (lv_at hl 0 rfl) ?_
  refine lv_iconst (v := 1) hx hb dL_law_554 (by decide) ?_
  refine lv_iadd hx hb dL_law_555 ?_
  refine lv_topi (fun x124 e124 => ?_)
  obtain rfl : x124 = 1 := e124.trans (by decide)
  refine va_sld hx hb hX hbl hbA hS (by unfold vp_in; decide) dL_law_556 ?_
  refine lv_aload_n hx hb dL_law_557 rfl (lv_at hl 4 rfl) ?_
  refine lv_iload hx hb dL_law_558 (lv_at hl 0 rfl) ?_
  refine lv_iconst (v := 2) hx hb dL_law_560 (by decide) ?_
  refine lv_iadd hx hb dL_law_561 ?_
  refine lv_topi (fun x126 e126 => ?_)
  obtain rfl : x126 = 2 := e126.trans (by decide)
  refine va_sld hx hb hX hbl hbA hS (by unfold vp_in; decide) dL_law_562 ?_
  refine lv_aload_n hx hb dL_law_563 rfl (lv_at hl 4 rfl) ?_
  refine lv_iload hx hb dL_law_564 (lv_at hl 0 rfl) ?_
  refine lv_iconst (v := 3) hx hb dL_law_566 (by decide) ?_
  refine lv_iadd hx hb dL_law_567 ?_
  refine lv_topi (fun x128 e128 => ?_)
  obtain rfl : x128 = 3 := e128.trans (by decide)
  refine va_sld hx hb hX hbl hbA hS (by unfold vp_in; decide) dL_law_568 ?_
  refine gc_vi (As := [.int ((xs (1 : Int32).toNatClampNeg)), .int ((xs (2 : Int32).toNatClampNeg)), .int ((xs (3 : Int32).toNatClampNeg))]) (rest := [.int ((sp_out ((xs (1 : Int32).toNatClampNeg)) ((xs (2 : Int32).toNatClampNeg))))]) (w0 := mw cI am mgI mdI mFI ++ ([(qo, .inl (cL, 1, .inr (.inl fo)))] ++ (wfC cI a u123))) (wc := mw cI am mgI mdI mFI) (wr := [(qo, .inl (cL, 1, .inr (.inl fo)))] ++ (wfC cI a u123)) (wf := wfM cI am) ⟨hx, hb, hml, hown, hts⟩ (KL_M hKK) (KM_ok D cI) hP hD hS hA [0, 1, 2, 3, 4, 5, 6] [7, 8, 9, 10, 11, 12, 13, 14, 15, 16, 17, 18, 19] rfl rfl (by decide) (i_X7_outcome l D cI am _ ((xs (1 : Int32).toNatClampNeg)) ((xs (2 : Int32).toNatClampNeg)) ((xs (3 : Int32).toNatClampNeg))) (cwV 3 hts gL_law_X7_outcome rfl rfl rfl (by decide +kernel) ⟨Nat.le_of_ble_eq_true rfl, Nat.le_of_ble_eq_true rfl⟩) (va_recv hK hP (ci := 7) (q0 := 0) rfl rfl) rfl hl.1 rfl (Nat.le_of_ble_eq_true rfl) dL_law_569 ⟨Nat.le_of_ble_eq_true rfl, Nat.le_of_ble_eq_true rfl⟩ (fun r130 u130 H locs hw130 hP hD hS => ?_)
  have hP : va_P D vwCl ([(qo, .inl (cL, 1, .inr (.inl fo)))] ++ (wfC cI a u123 ++ (wfM cI am u130))) H := hP
  have hD : va_D (fun q : Nat => s.heap.size ≤ q) ([(qo, .inl (cL, 1, .inr (.inl fo)))] ++ (wfC cI a u123 ++ (wfM cI am u130))) := hD
  subst hw130
  refine lv_icmp_eq (tgt := 778) hx hb dL_law_572 (by decide) (fun c131 => ?_) (fun c131 => absurd (rfl) c131)
  exact law_end C1 hS (lv_sub hl [0, 1, 2, 3, 4] rfl)
set_option maxHeartbeats 4000000 in
set_option maxRecDepth 100000 in
theorem law_case11 {p : Program} {l : Launch} {e : Env} {s : State} {m : MethodId} {below : List Frame} {meth : Method} {c : Code} {b : Nat} {xs : Nat → Int32} (C0 : lw_At p s m meth c b 5 xs) {D : va_G} {cI cL : ClassId} {a am : Nat → Nat} {qo : Nat} {fo : Nat → Int64} (hKK : KL D cI cL s) {H : Heap} {locs : List Loc} (hP : va_P D vwCl (cw cI a cgI cdI cFI ++ (mw cI am mgI mdI mFI ++ [(qo, .inl (cL, 1, .inr (.inl fo)))])) H) (hD : va_D (fun q : Nat => s.heap.size ≤ q) (cw cI a cgI cdI cFI ++ (mw cI am mgI mdI mFI ++ [(qo, .inl (cL, 1, .inr (.inl fo)))]))) (hS : va_S (fun q : Nat => s.heap.size ≤ q) s.heap H locs) {ls : Array Slot} (hl : lv_has ls 9 [(4, .int 0), (3, .ref qo), (2, .ref (am 0)), (1, .ref (a 0)), (0, .ref b)]) : W p l e room_1 s m #[Value.ref b] below meth c H locs 20 248 (lw_Z below #[Value.ref b] s) (F0 m 577 ls []) := by
  have C1 := C0
  obtain ⟨hx, hb, hr, hml, hown, hts, hX, hbl, hlocks, hgv⟩ := C0
  have hts := fun w h => hts w (wsL_law_in w h)
  have hK := hKK.1
  have hA : ∀ q : Nat, s.heap.size ≤ q → (fun q : Nat => s.heap.size ≤ q) q := fun _ h => h
  have hbA : ¬ (fun q : Nat => s.heap.size ≤ q) b := Nat.not_le.mpr hbl
  refine lv_aload_n hx hb dL_law_577 rfl (lv_at hl 3 rfl) ?_
  refine lv_aload_n hx hb dL_law_578 rfl (lv_at hl 4 rfl) ?_
  refine lv_iload hx hb dL_law_579 (lv_at hl 0 rfl) ?_
  refine lv_iconst (v := 1) hx hb dL_law_581 (by decide) ?_
  refine lv_iadd hx hb dL_law_582 ?_
  refine lv_topi (fun x132 e132 => ?_)
  obtain rfl : x132 = 1 := e132.trans (by decide)
  refine va_sld hx hb hX hbl hbA hS (by unfold vp_in; decide) dL_law_583 ?_
  refine gc_vi (As := [.int ((xs (1 : Int32).toNatClampNeg))]) (rest := []) (w0 := cw cI a cgI cdI cFI ++ (mw cI am mgI mdI mFI ++ ([(qo, .inl (cL, 1, .inr (.inl fo)))]))) (wc := cw cI a cgI cdI cFI) (wr := mw cI am mgI mdI mFI ++ ([(qo, .inl (cL, 1, .inr (.inl fo)))])) (wf := wfC cI a) ⟨hx, hb, hml, hown, hts⟩ (KL_C hKK) (KC_ok D cI) hP hD hS hA [0, 1, 2, 3, 4, 5, 6, 7, 8, 9, 10, 11] [12, 13, 14, 15, 16, 17, 18, 19] rfl rfl (by decide) (i_X6_pass l D cI a _ ((xs (1 : Int32).toNatClampNeg))) (cwV 1 hts gL_law_X6_pass rfl rfl rfl (by decide +kernel) ⟨Nat.le_of_ble_eq_true rfl, Nat.le_of_ble_eq_true rfl⟩) (va_recv hK hP (ci := 6) (q0 := 0) rfl rfl) rfl hl.1 rfl (Nat.le_of_ble_eq_true rfl) dL_law_584 ⟨Nat.le_of_ble_eq_true rfl, Nat.le_of_ble_eq_true rfl⟩ (fun r134 u134 H locs hw134 hP hD hS => ?_)
  have hP : va_P D vwCl (mw cI am mgI mdI mFI ++ ([(qo, .inl (cL, 1, .inr (.inl fo)))] ++ (wfC cI a u134))) H := hP
  have hD : va_D (fun q : Nat => s.heap.size ≤ q) (mw cI am mgI mdI mFI ++ ([(qo, .inl (cL, 1, .inr (.inl fo)))] ++ (wfC cI a u134))) := hD
  subst hw134
  refine lv_aload_n hx hb dL_law_587 rfl (lv_at hl 2 rfl) ?_
  refine lv_aload_n hx hb dL_law_588 rfl (lv_at hl 4 rfl) ?_
  refine lv_iload hx hb dL_law_589 (lv_at hl 0 rfl) ?_
  refine lv_iconst (v := 1) hx hb dL_law_591 (by decide) ?_
  refine lv_iadd hx hb dL_law_592 ?_
  refine lv_topi (fun x135 e135 => ?_)
  obtain rfl : x135 = 1 := e135.trans (by decide)
  refine va_sld hx hb hX hbl hbA hS (by unfold vp_in; decide) dL_law_593 ?_
  refine gc_vi (As := [.int ((xs (1 : Int32).toNatClampNeg))]) (rest := [.int ((sp1 ((xs (1 : Int32).toNatClampNeg)) 0 100))]) (w0 := mw cI am mgI mdI mFI ++ ([(qo, .inl (cL, 1, .inr (.inl fo)))] ++ (wfC cI a u134))) (wc := mw cI am mgI mdI mFI) (wr := [(qo, .inl (cL, 1, .inr (.inl fo)))] ++ (wfC cI a u134)) (wf := wfM cI am) ⟨hx, hb, hml, hown, hts⟩ (KL_M hKK) (KM_ok D cI) hP hD hS hA [0, 1, 2, 3, 4, 5, 6] [7, 8, 9, 10, 11, 12, 13, 14, 15, 16, 17, 18, 19] rfl rfl (by decide) (i_X7_pass l D cI am _ ((xs (1 : Int32).toNatClampNeg))) (cwV 1 hts gL_law_X7_pass rfl rfl rfl (by decide +kernel) ⟨Nat.le_of_ble_eq_true rfl, Nat.le_of_ble_eq_true rfl⟩) (va_recv hK hP (ci := 7) (q0 := 0) rfl rfl) rfl hl.1 rfl (Nat.le_of_ble_eq_true rfl) dL_law_594 ⟨Nat.le_of_ble_eq_true rfl, Nat.le_of_ble_eq_true rfl⟩ (fun r137 u137 H locs hw137 hP hD hS => ?_)
  have hP : va_P D vwCl ([(qo, .inl (cL, 1, .inr (.inl fo)))] ++ (wfC cI a u134 ++ (wfM cI am u137))) H := hP
  have hD : va_D (fun q : Nat => s.heap.size ≤ q) ([(qo, .inl (cL, 1, .inr (.inl fo)))] ++ (wfC cI a u134 ++ (wfM cI am u137))) := hD
  subst hw137
  refine lv_icmp_eq (tgt := 778) hx hb dL_law_597 (by decide) (fun c138 => ?_) (fun c138 => absurd (rfl) c138)
  exact law_end C1 hS (lv_sub hl [0, 1, 2, 3, 4] rfl)
set_option maxHeartbeats 4000000 in
set_option maxRecDepth 100000 in
theorem law_case12 {p : Program} {l : Launch} {e : Env} {s : State} {m : MethodId} {below : List Frame} {meth : Method} {c : Code} {b : Nat} {xs : Nat → Int32} (C0 : lw_At p s m meth c b 5 xs) {D : va_G} {cI cL : ClassId} {a am : Nat → Nat} {qo : Nat} {fo : Nat → Int64} (hKK : KL D cI cL s) {H : Heap} {locs : List Loc} (hP : va_P D vwCl (cw cI a cgI cdI cFI ++ (mw cI am mgI mdI mFI ++ [(qo, .inl (cL, 1, .inr (.inl fo)))])) H) (hD : va_D (fun q : Nat => s.heap.size ≤ q) (cw cI a cgI cdI cFI ++ (mw cI am mgI mdI mFI ++ [(qo, .inl (cL, 1, .inr (.inl fo)))]))) (hS : va_S (fun q : Nat => s.heap.size ≤ q) s.heap H locs) {ls : Array Slot} (hl : lv_has ls 9 [(4, .int 0), (3, .ref qo), (2, .ref (am 0)), (1, .ref (a 0)), (0, .ref b)]) : W p l e room_1 s m #[Value.ref b] below meth c H locs 20 248 (lw_Z below #[Value.ref b] s) (F0 m 602 ls []) := by
  have C1 := C0
  obtain ⟨hx, hb, hr, hml, hown, hts, hX, hbl, hlocks, hgv⟩ := C0
  have hts := fun w h => hts w (wsL_law_in w h)
  have hK := hKK.1
  have hA : ∀ q : Nat, s.heap.size ≤ q → (fun q : Nat => s.heap.size ≤ q) q := fun _ h => h
  have hbA : ¬ (fun q : Nat => s.heap.size ≤ q) b := Nat.not_le.mpr hbl
  refine lv_aload_n hx hb dL_law_602 rfl (lv_at hl 3 rfl) ?_
  refine lv_aload_n hx hb dL_law_603 rfl (lv_at hl 1 rfl) ?_
  refine gc_swi (As := [.ref (a 0), .ref qo]) (rest := []) (w0 := cw cI a cgI cdI cFI ++ (mw cI am mgI mdI mFI ++ ([(qo, .inl (cL, 1, .inr (.inl fo)))]))) (wc := cw cI a cgI cdI cFI ++ [(qo, .inl (cL, 1, .inr (.inl fo)))]) (wr := mw cI am mgI mdI mFI) (wf := fun (u : SS × (Nat → Int64)) => wfC cI a u.1 ++ [(qo, .inl (cL, 1, .inr (.inl u.2)))]) ⟨hx, hb, hml, hown, hts⟩ hKK (KL_ok D cI cL) hP hD hS hA [0, 1, 2, 3, 4, 5, 6, 7, 8, 9, 10, 11, 19] [12, 13, 14, 15, 16, 17, 18] rfl rfl (by decide) (i_L_call l D cI cL a qo fo _) (vx_cwSW 2 hts gL_law_L_call rfl rfl rfl (by decide +kernel) ⟨Nat.le_of_ble_eq_true rfl, Nat.le_of_ble_eq_true rfl⟩) rfl hl.1 rfl (Nat.le_of_ble_eq_true rfl) dL_law_604 ⟨Nat.le_of_ble_eq_true rfl, Nat.le_of_ble_eq_true rfl⟩ (fun r139 u139 H locs hw139 hP hD hS => ?_)
  obtain ⟨rfl, hw139⟩ := hw139
  obtain ⟨v139, f139⟩ := u139
  have hP : va_P D vwCl (mw cI am mgI mdI mFI ++ (wfC cI a v139 ++ ([(qo, .inl (cL, 1, .inr (.inl f139)))]))) H := hP
  have hD : va_D (fun q : Nat => s.heap.size ≤ q) (mw cI am mgI mdI mFI ++ (wfC cI a v139 ++ ([(qo, .inl (cL, 1, .inr (.inl f139)))]))) := hD
  refine lv_istore (lv' := [(5, .int 0), (4, .int 0), (3, .ref qo), (2, .ref ((am 0))), (1, .ref ((a 0))), (0, .ref b)]) hx hb dL_law_607 hl (by decide) rfl (fun ls hl => ?_)
  refine lv_aload_n hx hb dL_law_609 rfl (lv_at hl 3 rfl) ?_
  refine gc_vi (As := []) (rest := []) (w0 := mw cI am mgI mdI mFI ++ (wfC cI a v139 ++ ([(qo, .inl (cL, 1, .inr (.inl f139)))]))) (wc := mw cI am mgI mdI mFI) (wr := wfC cI a v139 ++ ([(qo, .inl (cL, 1, .inr (.inl f139)))])) (wf := wfM cI am) ⟨hx, hb, hml, hown, hts⟩ (KL_M hKK) (KM_ok D cI) hP hD hS hA [0, 1, 2, 3, 4, 5, 6] [7, 8, 9, 10, 11, 12, 13, 14, 15, 16, 17, 18, 19] rfl rfl (by decide) (i_X7_call l D cI am _) (cwV 0 hts gL_law_X7_call rfl rfl rfl (by decide +kernel) ⟨Nat.le_of_ble_eq_true rfl, Nat.le_of_ble_eq_true rfl⟩) (va_recv hK hP (ci := 7) (q0 := 0) rfl rfl) rfl hl.1 rfl (Nat.le_of_ble_eq_true rfl) dL_law_610 ⟨Nat.le_of_ble_eq_true rfl, Nat.le_of_ble_eq_true rfl⟩ (fun r140 u140 H locs hw140 hP hD hS => ?_)
  have hP : va_P D vwCl (wfC cI a v139 ++ ([(qo, .inl (cL, 1, .inr (.inl f139)))] ++ (wfM cI am u140))) H := hP
  have hD : va_D (fun q : Nat => s.heap.size ≤ q) (wfC cI a v139 ++ ([(qo, .inl (cL, 1, .inr (.inl f139)))] ++ (wfM cI am u140))) := hD
  obtain ⟨rfl, hw140⟩ := hw140
  refine lv_istore (lv' := [(6, .int 0), (5, .int 0), (4, .int 0), (3, .ref qo), (2, .ref ((am 0))), (1, .ref ((a 0))), (0, .ref b)]) hx hb dL_law_613 hl (by decide) rfl (fun ls hl => ?_)
  refine lv_aload_n hx hb dL_law_615 rfl (lv_at hl 4 rfl) ?_
  refine gc_vi (As := []) (rest := []) (w0 := wfC cI a v139 ++ ([(qo, .inl (cL, 1, .inr (.inl f139)))] ++ (wfM cI am u140))) (wc := wfM cI am u140) (wr := wfC cI a v139 ++ ([(qo, .inl (cL, 1, .inr (.inl f139)))])) (wf := wfM cI am) ⟨hx, hb, hml, hown, hts⟩ (KL_M hKK) (KM_ok D cI) hP hD hS hA [13, 14, 15, 16, 17, 18, 19] [0, 1, 2, 3, 4, 5, 6, 7, 8, 9, 10, 11, 12] rfl rfl (by decide) (t_X7_thrown l D cI am _ u140 hw140) (cwV 0 hts gL_law_X7_thrown rfl rfl rfl (by decide +kernel) ⟨Nat.le_of_ble_eq_true rfl, Nat.le_of_ble_eq_true rfl⟩) (va_recv hK hP (ci := 7) (q0 := 13) rfl rfl) rfl hl.1 rfl (Nat.le_of_ble_eq_true rfl) dL_law_616 ⟨Nat.le_of_ble_eq_true rfl, Nat.le_of_ble_eq_true rfl⟩ (fun r141 u141 H locs hw141 hP hD hS => ?_)
  have hP : va_P D vwCl (wfC cI a v139 ++ ([(qo, .inl (cL, 1, .inr (.inl f139)))] ++ (wfM cI am u141))) H := hP
  have hD : va_D (fun q : Nat => s.heap.size ≤ q) (wfC cI a v139 ++ ([(qo, .inl (cL, 1, .inr (.inl f139)))] ++ (wfM cI am u141))) := hD
  subst hw141
  refine lv_iload hx hb dL_law_619 (lv_at hl 1 rfl) ?_
  refine lv_icmp_eq (tgt := 626) hx hb dL_law_621 (by decide) (fun c142 => ?_) (fun c142 => absurd (rfl) c142)
  refine lv_iload hx hb dL_law_626 (lv_at hl 1 rfl) ?_
  refine lv_if_ne (tgt := 643) hx hb dL_law_628 (by decide) (fun c143 => absurd c143 (fun h => h rfl)) (fun c143 => ?_)
  refine lv_aload_n hx hb dL_law_631 rfl (lv_at hl 3 rfl) ?_
  refine lv_iconst (v := 0) hx hb dL_law_632 (by decide) ?_
  refine va_lald (D := D) hx hb hK hP 12 1 (f := f139) (n := 1) rfl rfl (by unfold vp_in; decide) dL_law_633 ?_
  refine lv_iload hx hb dL_law_634 (lv_at hl 0 rfl) ?_
  refine lv_i2l (v := 0) hx hb dL_law_636 (by decide) ?_
  refine W.lcmp hx hb dL_law_637 ?_
  refine lv_topi (fun x144 e144 => ?_)
  obtain rfl : x144 = 0 := by rw [e144, show (f139 (0 : Int32).toNatClampNeg) = 0 from hw139]; decide
  refine lv_if_eq (tgt := 643) hx hb dL_law_638 (by decide) (fun c145 => ?_) (fun c145 => absurd (rfl) c145)
  refine lv_goto (tgt := 778) hx hb dL_law_643 (by decide) ?_
  exact law_end C1 hS (lv_sub hl [2, 3, 4, 5, 6] rfl)
set_option maxHeartbeats 4000000 in
set_option maxRecDepth 100000 in
theorem law_case13 {p : Program} {l : Launch} {e : Env} {s : State} {m : MethodId} {below : List Frame} {meth : Method} {c : Code} {b : Nat} {xs : Nat → Int32} (C0 : lw_At p s m meth c b 5 xs) {D : va_G} {cI cL : ClassId} {a am : Nat → Nat} {qo : Nat} {fo : Nat → Int64} (hKK : KL D cI cL s) {H : Heap} {locs : List Loc} (hP : va_P D vwCl (cw cI a cgI cdI cFI ++ (mw cI am mgI mdI mFI ++ [(qo, .inl (cL, 1, .inr (.inl fo)))])) H) (hD : va_D (fun q : Nat => s.heap.size ≤ q) (cw cI a cgI cdI cFI ++ (mw cI am mgI mdI mFI ++ [(qo, .inl (cL, 1, .inr (.inl fo)))]))) (hS : va_S (fun q : Nat => s.heap.size ≤ q) s.heap H locs) {ls : Array Slot} (hl : lv_has ls 9 [(4, .int 0), (3, .ref qo), (2, .ref (am 0)), (1, .ref (a 0)), (0, .ref b)]) : W p l e room_1 s m #[Value.ref b] below meth c H locs 20 248 (lw_Z below #[Value.ref b] s) (F0 m 646 ls []) := by
  have C1 := C0
  obtain ⟨hx, hb, hr, hml, hown, hts, hX, hbl, hlocks, hgv⟩ := C0
  have hts := fun w h => hts w (wsL_law_in w h)
  have hK := hKK.1
  have hA : ∀ q : Nat, s.heap.size ≤ q → (fun q : Nat => s.heap.size ≤ q) q := fun _ h => h
  have hbA : ¬ (fun q : Nat => s.heap.size ≤ q) b := Nat.not_le.mpr hbl
  refine lv_aload_n hx hb dL_law_646 rfl (lv_at hl 3 rfl) ?_
  refine gc_vd (As := []) (rest := []) (w0 := cw cI a cgI cdI cFI ++ (mw cI am mgI mdI mFI ++ ([(qo, .inl (cL, 1, .inr (.inl fo)))]))) (wc := cw cI a cgI cdI cFI) (wr := mw cI am mgI mdI mFI ++ ([(qo, .inl (cL, 1, .inr (.inl fo)))])) (wf := wfC cI a) ⟨hx, hb, hml, hown, hts⟩ (KL_C hKK) (KC_ok D cI) hP hD hS hA [0, 1, 2, 3, 4, 5, 6, 7, 8, 9, 10, 11] [12, 13, 14, 15, 16, 17, 18, 19] rfl rfl (by decide) (i_X6_failing l D cI a _) (cwV 0 hts gL_law_X6_failing rfl rfl rfl (by decide +kernel) ⟨Nat.le_of_ble_eq_true rfl, Nat.le_of_ble_eq_true rfl⟩) (va_recv hK hP (ci := 6) (q0 := 0) rfl rfl) rfl hl.1 rfl (Nat.le_of_ble_eq_true rfl) dL_law_647 ⟨Nat.le_of_ble_eq_true rfl, Nat.le_of_ble_eq_true rfl⟩ (fun r146 u146 H locs hw146 hP hD hS => ?_)
  have hP : va_P D vwCl (mw cI am mgI mdI mFI ++ ([(qo, .inl (cL, 1, .inr (.inl fo)))] ++ (wfC cI a u146))) H := hP
  have hD : va_D (fun q : Nat => s.heap.size ≤ q) (mw cI am mgI mdI mFI ++ ([(qo, .inl (cL, 1, .inr (.inl fo)))] ++ (wfC cI a u146))) := hD
  subst hw146
  refine lv_dstore (lv' := [(5, .double 13830554455654793216), (4, .int 0), (3, .ref qo), (2, .ref ((am 0))), (1, .ref ((a 0))), (0, .ref b)]) hx hb dL_law_650 hl (by decide) rfl (fun ls hl => ?_)
  refine lv_aload_n hx hb dL_law_652 rfl (lv_at hl 3 rfl) ?_
  refine gc_vd (As := []) (rest := []) (w0 := mw cI am mgI mdI mFI ++ ([(qo, .inl (cL, 1, .inr (.inl fo)))] ++ (wfC cI a u146))) (wc := mw cI am mgI mdI mFI) (wr := [(qo, .inl (cL, 1, .inr (.inl fo)))] ++ (wfC cI a u146)) (wf := wfM cI am) ⟨hx, hb, hml, hown, hts⟩ (KL_M hKK) (KM_ok D cI) hP hD hS hA [0, 1, 2, 3, 4, 5, 6] [7, 8, 9, 10, 11, 12, 13, 14, 15, 16, 17, 18, 19] rfl rfl (by decide) (i_X7_failing l D cI am _) (cwV 0 hts gL_law_X7_failing rfl rfl rfl (by decide +kernel) ⟨Nat.le_of_ble_eq_true rfl, Nat.le_of_ble_eq_true rfl⟩) (va_recv hK hP (ci := 7) (q0 := 0) rfl rfl) rfl hl.1 rfl (Nat.le_of_ble_eq_true rfl) dL_law_653 ⟨Nat.le_of_ble_eq_true rfl, Nat.le_of_ble_eq_true rfl⟩ (fun r147 u147 H locs hw147 hP hD hS => ?_)
  have hP : va_P D vwCl ([(qo, .inl (cL, 1, .inr (.inl fo)))] ++ (wfC cI a u146 ++ (wfM cI am u147))) H := hP
  have hD : va_D (fun q : Nat => s.heap.size ≤ q) ([(qo, .inl (cL, 1, .inr (.inl fo)))] ++ (wfC cI a u146 ++ (wfM cI am u147))) := hD
  subst hw147
  refine lv_dstore (lv' := [(7, .double 13830554455654793216), (5, .double 13830554455654793216), (4, .int 0), (3, .ref qo), (2, .ref ((am 0))), (1, .ref ((a 0))), (0, .ref b)]) hx hb dL_law_656 hl (by decide) rfl (fun ls hl => ?_)
  refine lv_dload hx hb dL_law_658 (lv_at hl 1 rfl) ?_
  refine lv_dload hx hb dL_law_660 (lv_at hl 0 rfl) ?_
  refine lv_dcmp hx hb dL_law_662 ?_
  refine lv_topi (fun x148 e148 => ?_)
  obtain rfl : x148 = 0 := e148.trans (by decide +kernel)
  refine lv_if_eq (tgt := 684) hx hb dL_law_663 (by decide) (fun c149 => ?_) (fun c149 => absurd (rfl) c149)
  refine lv_goto (tgt := 778) hx hb dL_law_684 (by decide) ?_
  exact law_end C1 hS (lv_sub hl [2, 3, 4, 5, 6] rfl)
set_option maxHeartbeats 4000000 in
set_option maxRecDepth 100000 in
theorem law_case14 {p : Program} {l : Launch} {e : Env} {s : State} {m : MethodId} {below : List Frame} {meth : Method} {c : Code} {b : Nat} {xs : Nat → Int32} (C0 : lw_At p s m meth c b 5 xs) {D : va_G} {cI cL : ClassId} {a am : Nat → Nat} {qo : Nat} {fo : Nat → Int64} (hKK : KL D cI cL s) {H : Heap} {locs : List Loc} (hP : va_P D vwCl (cw cI a cgI cdI cFI ++ (mw cI am mgI mdI mFI ++ [(qo, .inl (cL, 1, .inr (.inl fo)))])) H) (hD : va_D (fun q : Nat => s.heap.size ≤ q) (cw cI a cgI cdI cFI ++ (mw cI am mgI mdI mFI ++ [(qo, .inl (cL, 1, .inr (.inl fo)))]))) (hS : va_S (fun q : Nat => s.heap.size ≤ q) s.heap H locs) {ls : Array Slot} (hl : lv_has ls 9 [(4, .int 0), (3, .ref qo), (2, .ref (am 0)), (1, .ref (a 0)), (0, .ref b)]) : W p l e room_1 s m #[Value.ref b] below meth c H locs 20 248 (lw_Z below #[Value.ref b] s) (F0 m 687 ls []) := by
  have C1 := C0
  obtain ⟨hx, hb, hr, hml, hown, hts, hX, hbl, hlocks, hgv⟩ := C0
  have hts := fun w h => hts w (wsL_law_in w h)
  have hK := hKK.1
  have hA : ∀ q : Nat, s.heap.size ≤ q → (fun q : Nat => s.heap.size ≤ q) q := fun _ h => h
  have hbA : ¬ (fun q : Nat => s.heap.size ≤ q) b := Nat.not_le.mpr hbl
  refine lv_aload_n hx hb dL_law_687 rfl (lv_at hl 3 rfl) ?_
  refine gc_vd (As := []) (rest := []) (w0 := cw cI a cgI cdI cFI ++ (mw cI am mgI mdI mFI ++ ([(qo, .inl (cL, 1, .inr (.inl fo)))]))) (wc := cw cI a cgI cdI cFI) (wr := mw cI am mgI mdI mFI ++ ([(qo, .inl (cL, 1, .inr (.inl fo)))])) (wf := wfC cI a) ⟨hx, hb, hml, hown, hts⟩ (KL_C hKK) (KC_ok D cI) hP hD hS hA [0, 1, 2, 3, 4, 5, 6, 7, 8, 9, 10, 11] [12, 13, 14, 15, 16, 17, 18, 19] rfl rfl (by decide) (i_X6_sluggish l D cI a _) (cwV 0 hts gL_law_X6_sluggish rfl rfl rfl (by decide +kernel) ⟨Nat.le_of_ble_eq_true rfl, Nat.le_of_ble_eq_true rfl⟩) (va_recv hK hP (ci := 6) (q0 := 0) rfl rfl) rfl hl.1 rfl (Nat.le_of_ble_eq_true rfl) dL_law_688 ⟨Nat.le_of_ble_eq_true rfl, Nat.le_of_ble_eq_true rfl⟩ (fun r150 u150 H locs hw150 hP hD hS => ?_)
  have hP : va_P D vwCl (mw cI am mgI mdI mFI ++ ([(qo, .inl (cL, 1, .inr (.inl fo)))] ++ (wfC cI a u150))) H := hP
  have hD : va_D (fun q : Nat => s.heap.size ≤ q) (mw cI am mgI mdI mFI ++ ([(qo, .inl (cL, 1, .inr (.inl fo)))] ++ (wfC cI a u150))) := hD
  subst hw150
  refine lv_dstore (lv' := [(5, .double 13830554455654793216), (4, .int 0), (3, .ref qo), (2, .ref ((am 0))), (1, .ref ((a 0))), (0, .ref b)]) hx hb dL_law_691 hl (by decide) rfl (fun ls hl => ?_)
  refine lv_aload_n hx hb dL_law_693 rfl (lv_at hl 3 rfl) ?_
  refine gc_vd (As := []) (rest := []) (w0 := mw cI am mgI mdI mFI ++ ([(qo, .inl (cL, 1, .inr (.inl fo)))] ++ (wfC cI a u150))) (wc := mw cI am mgI mdI mFI) (wr := [(qo, .inl (cL, 1, .inr (.inl fo)))] ++ (wfC cI a u150)) (wf := wfM cI am) ⟨hx, hb, hml, hown, hts⟩ (KL_M hKK) (KM_ok D cI) hP hD hS hA [0, 1, 2, 3, 4, 5, 6] [7, 8, 9, 10, 11, 12, 13, 14, 15, 16, 17, 18, 19] rfl rfl (by decide) (i_X7_sluggish l D cI am _) (cwV 0 hts gL_law_X7_sluggish rfl rfl rfl (by decide +kernel) ⟨Nat.le_of_ble_eq_true rfl, Nat.le_of_ble_eq_true rfl⟩) (va_recv hK hP (ci := 7) (q0 := 0) rfl rfl) rfl hl.1 rfl (Nat.le_of_ble_eq_true rfl) dL_law_694 ⟨Nat.le_of_ble_eq_true rfl, Nat.le_of_ble_eq_true rfl⟩ (fun r151 u151 H locs hw151 hP hD hS => ?_)
  have hP : va_P D vwCl ([(qo, .inl (cL, 1, .inr (.inl fo)))] ++ (wfC cI a u150 ++ (wfM cI am u151))) H := hP
  have hD : va_D (fun q : Nat => s.heap.size ≤ q) ([(qo, .inl (cL, 1, .inr (.inl fo)))] ++ (wfC cI a u150 ++ (wfM cI am u151))) := hD
  subst hw151
  refine lv_dstore (lv' := [(7, .double 13830554455654793216), (5, .double 13830554455654793216), (4, .int 0), (3, .ref qo), (2, .ref ((am 0))), (1, .ref ((a 0))), (0, .ref b)]) hx hb dL_law_697 hl (by decide) rfl (fun ls hl => ?_)
  refine lv_dload hx hb dL_law_699 (lv_at hl 1 rfl) ?_
  refine lv_dload hx hb dL_law_701 (lv_at hl 0 rfl) ?_
  refine lv_dcmp hx hb dL_law_703 ?_
  refine lv_topi (fun x152 e152 => ?_)
  obtain rfl : x152 = 0 := e152.trans (by decide +kernel)
  refine lv_if_eq (tgt := 725) hx hb dL_law_704 (by decide) (fun c153 => ?_) (fun c153 => absurd (rfl) c153)
  refine lv_goto (tgt := 778) hx hb dL_law_725 (by decide) ?_
  exact law_end C1 hS (lv_sub hl [2, 3, 4, 5, 6] rfl)
set_option maxHeartbeats 4000000 in
set_option maxRecDepth 100000 in
theorem law_case15 {p : Program} {l : Launch} {e : Env} {s : State} {m : MethodId} {below : List Frame} {meth : Method} {c : Code} {b : Nat} {xs : Nat → Int32} (C0 : lw_At p s m meth c b 5 xs) {D : va_G} {cI cL : ClassId} {a am : Nat → Nat} {qo : Nat} {fo : Nat → Int64} (hKK : KL D cI cL s) {H : Heap} {locs : List Loc} (hP : va_P D vwCl (cw cI a cgI cdI cFI ++ (mw cI am mgI mdI mFI ++ [(qo, .inl (cL, 1, .inr (.inl fo)))])) H) (hD : va_D (fun q : Nat => s.heap.size ≤ q) (cw cI a cgI cdI cFI ++ (mw cI am mgI mdI mFI ++ [(qo, .inl (cL, 1, .inr (.inl fo)))]))) (hS : va_S (fun q : Nat => s.heap.size ≤ q) s.heap H locs) {ls : Array Slot} (hl : lv_has ls 9 [(4, .int 0), (3, .ref qo), (2, .ref (am 0)), (1, .ref (a 0)), (0, .ref b)]) : W p l e room_1 s m #[Value.ref b] below meth c H locs 20 248 (lw_Z below #[Value.ref b] s) (F0 m 728 ls []) := by
  have C1 := C0
  obtain ⟨hx, hb, hr, hml, hown, hts, hX, hbl, hlocks, hgv⟩ := C0
  have hts := fun w h => hts w (wsL_law_in w h)
  have hK := hKK.1
  have hA : ∀ q : Nat, s.heap.size ≤ q → (fun q : Nat => s.heap.size ≤ q) q := fun _ h => h
  have hbA : ¬ (fun q : Nat => s.heap.size ≤ q) b := Nat.not_le.mpr hbl
  refine lv_aload_n hx hb dL_law_728 rfl (lv_at hl 3 rfl) ?_
  refine lv_aload_n hx hb dL_law_729 rfl (lv_at hl 4 rfl) ?_
  refine lv_iload hx hb dL_law_730 (lv_at hl 0 rfl) ?_
  refine lv_iconst (v := 1) hx hb dL_law_732 (by decide) ?_
  refine lv_iadd hx hb dL_law_733 ?_
  refine lv_topi (fun x154 e154 => ?_)
  obtain rfl : x154 = 1 := e154.trans (by decide)
  refine va_sld hx hb hX hbl hbA hS (by unfold vp_in; decide) dL_law_734 ?_
  refine gc_vi (As := [.int ((xs (1 : Int32).toNatClampNeg))]) (rest := []) (w0 := cw cI a cgI cdI cFI ++ (mw cI am mgI mdI mFI ++ ([(qo, .inl (cL, 1, .inr (.inl fo)))]))) (wc := cw cI a cgI cdI cFI) (wr := mw cI am mgI mdI mFI ++ ([(qo, .inl (cL, 1, .inr (.inl fo)))])) (wf := wfC cI a) ⟨hx, hb, hml, hown, hts⟩ (KL_C hKK) (KC_ok D cI) hP hD hS hA [0, 1, 2, 3, 4, 5, 6, 7, 8, 9, 10, 11] [12, 13, 14, 15, 16, 17, 18, 19] rfl rfl (by decide) (i_X6_tell l D cI a _ ((xs (1 : Int32).toNatClampNeg))) (cwV 1 hts gL_law_X6_tell rfl rfl rfl (by decide +kernel) ⟨Nat.le_of_ble_eq_true rfl, Nat.le_of_ble_eq_true rfl⟩) (va_recv hK hP (ci := 6) (q0 := 0) rfl rfl) rfl hl.1 rfl (Nat.le_of_ble_eq_true rfl) dL_law_735 ⟨Nat.le_of_ble_eq_true rfl, Nat.le_of_ble_eq_true rfl⟩ (fun r156 u156 H locs hw156 hP hD hS => ?_)
  have hP : va_P D vwCl (mw cI am mgI mdI mFI ++ ([(qo, .inl (cL, 1, .inr (.inl fo)))] ++ (wfC cI a u156))) H := hP
  have hD : va_D (fun q : Nat => s.heap.size ≤ q) (mw cI am mgI mdI mFI ++ ([(qo, .inl (cL, 1, .inr (.inl fo)))] ++ (wfC cI a u156))) := hD
  subst hw156
  refine lv_aload_n hx hb dL_law_738 rfl (lv_at hl 2 rfl) ?_
  refine lv_aload_n hx hb dL_law_739 rfl (lv_at hl 4 rfl) ?_
  refine lv_iload hx hb dL_law_740 (lv_at hl 0 rfl) ?_
  refine lv_iconst (v := 1) hx hb dL_law_742 (by decide) ?_
  refine lv_iadd hx hb dL_law_743 ?_
  refine lv_topi (fun x157 e157 => ?_)
  obtain rfl : x157 = 1 := e157.trans (by decide)
  refine va_sld hx hb hX hbl hbA hS (by unfold vp_in; decide) dL_law_744 ?_
  refine gc_vi (As := [.int ((xs (1 : Int32).toNatClampNeg))]) (rest := [.int ((sp_tell0 ((xs (1 : Int32).toNatClampNeg))))]) (w0 := mw cI am mgI mdI mFI ++ ([(qo, .inl (cL, 1, .inr (.inl fo)))] ++ (wfC cI a u156))) (wc := mw cI am mgI mdI mFI) (wr := [(qo, .inl (cL, 1, .inr (.inl fo)))] ++ (wfC cI a u156)) (wf := wfM cI am) ⟨hx, hb, hml, hown, hts⟩ (KL_M hKK) (KM_ok D cI) hP hD hS hA [0, 1, 2, 3, 4, 5, 6] [7, 8, 9, 10, 11, 12, 13, 14, 15, 16, 17, 18, 19] rfl rfl (by decide) (i_X7_tell l D cI am _ ((xs (1 : Int32).toNatClampNeg))) (cwV 1 hts gL_law_X7_tell rfl rfl rfl (by decide +kernel) ⟨Nat.le_of_ble_eq_true rfl, Nat.le_of_ble_eq_true rfl⟩) (va_recv hK hP (ci := 7) (q0 := 0) rfl rfl) rfl hl.1 rfl (Nat.le_of_ble_eq_true rfl) dL_law_745 ⟨Nat.le_of_ble_eq_true rfl, Nat.le_of_ble_eq_true rfl⟩ (fun r159 u159 H locs hw159 hP hD hS => ?_)
  have hP : va_P D vwCl ([(qo, .inl (cL, 1, .inr (.inl fo)))] ++ (wfC cI a u156 ++ (wfM cI am u159))) H := hP
  have hD : va_D (fun q : Nat => s.heap.size ≤ q) ([(qo, .inl (cL, 1, .inr (.inl fo)))] ++ (wfC cI a u156 ++ (wfM cI am u159))) := hD
  subst hw159
  refine lv_icmp_eq (tgt := 778) hx hb dL_law_748 (by decide) (fun c160 => ?_) (fun c160 => absurd (rfl) c160)
  exact law_end C1 hS (lv_sub hl [0, 1, 2, 3, 4] rfl)
set_option maxHeartbeats 4000000 in
set_option maxRecDepth 100000 in
theorem law_case16 {p : Program} {l : Launch} {e : Env} {s : State} {m : MethodId} {below : List Frame} {meth : Method} {c : Code} {b : Nat} {xs : Nat → Int32} (C0 : lw_At p s m meth c b 5 xs) {D : va_G} {cI cL : ClassId} {a am : Nat → Nat} {qo : Nat} {fo : Nat → Int64} (hKK : KL D cI cL s) {H : Heap} {locs : List Loc} (hP : va_P D vwCl (cw cI a cgI cdI cFI ++ (mw cI am mgI mdI mFI ++ [(qo, .inl (cL, 1, .inr (.inl fo)))])) H) (hD : va_D (fun q : Nat => s.heap.size ≤ q) (cw cI a cgI cdI cFI ++ (mw cI am mgI mdI mFI ++ [(qo, .inl (cL, 1, .inr (.inl fo)))]))) (hS : va_S (fun q : Nat => s.heap.size ≤ q) s.heap H locs) {ls : Array Slot} (hl : lv_has ls 9 [(4, .int 0), (3, .ref qo), (2, .ref (am 0)), (1, .ref (a 0)), (0, .ref b)]) : W p l e room_1 s m #[Value.ref b] below meth c H locs 20 248 (lw_Z below #[Value.ref b] s) (F0 m 753 ls []) := by
  have C1 := C0
  obtain ⟨hx, hb, hr, hml, hown, hts, hX, hbl, hlocks, hgv⟩ := C0
  have hts := fun w h => hts w (wsL_law_in w h)
  have hK := hKK.1
  have hA : ∀ q : Nat, s.heap.size ≤ q → (fun q : Nat => s.heap.size ≤ q) q := fun _ h => h
  have hbA : ¬ (fun q : Nat => s.heap.size ≤ q) b := Nat.not_le.mpr hbl
  refine lv_aload_n hx hb dL_law_753 rfl (lv_at hl 3 rfl) ?_
  refine lv_aload_n hx hb dL_law_754 rfl (lv_at hl 4 rfl) ?_
  refine lv_iload hx hb dL_law_755 (lv_at hl 0 rfl) ?_
  refine lv_iconst (v := 1) hx hb dL_law_757 (by decide) ?_
  refine lv_iadd hx hb dL_law_758 ?_
  refine lv_topi (fun x161 e161 => ?_)
  obtain rfl : x161 = 1 := e161.trans (by decide)
  refine va_sld hx hb hX hbl hbA hS (by unfold vp_in; decide) dL_law_759 ?_
  refine gc_vi (As := [.int ((xs (1 : Int32).toNatClampNeg))]) (rest := []) (w0 := cw cI a cgI cdI cFI ++ (mw cI am mgI mdI mFI ++ ([(qo, .inl (cL, 1, .inr (.inl fo)))]))) (wc := cw cI a cgI cdI cFI) (wr := mw cI am mgI mdI mFI ++ ([(qo, .inl (cL, 1, .inr (.inl fo)))])) (wf := wfC cI a) ⟨hx, hb, hml, hown, hts⟩ (KL_C hKK) (KC_ok D cI) hP hD hS hA [0, 1, 2, 3, 4, 5, 6, 7, 8, 9, 10, 11] [12, 13, 14, 15, 16, 17, 18, 19] rfl rfl (by decide) (i_X6_event l D cI a _ ((xs (1 : Int32).toNatClampNeg))) (cwV 1 hts gL_law_X6_event rfl rfl rfl (by decide +kernel) ⟨Nat.le_of_ble_eq_true rfl, Nat.le_of_ble_eq_true rfl⟩) (va_recv hK hP (ci := 6) (q0 := 0) rfl rfl) rfl hl.1 rfl (Nat.le_of_ble_eq_true rfl) dL_law_760 ⟨Nat.le_of_ble_eq_true rfl, Nat.le_of_ble_eq_true rfl⟩ (fun r163 u163 H locs hw163 hP hD hS => ?_)
  have hP : va_P D vwCl (mw cI am mgI mdI mFI ++ ([(qo, .inl (cL, 1, .inr (.inl fo)))] ++ (wfC cI a u163))) H := hP
  have hD : va_D (fun q : Nat => s.heap.size ≤ q) (mw cI am mgI mdI mFI ++ ([(qo, .inl (cL, 1, .inr (.inl fo)))] ++ (wfC cI a u163))) := hD
  subst hw163
  refine lv_aload_n hx hb dL_law_763 rfl (lv_at hl 2 rfl) ?_
  refine lv_aload_n hx hb dL_law_764 rfl (lv_at hl 4 rfl) ?_
  refine lv_iload hx hb dL_law_765 (lv_at hl 0 rfl) ?_
  refine lv_iconst (v := 1) hx hb dL_law_767 (by decide) ?_
  refine lv_iadd hx hb dL_law_768 ?_
  refine lv_topi (fun x164 e164 => ?_)
  obtain rfl : x164 = 1 := e164.trans (by decide)
  refine va_sld hx hb hX hbl hbA hS (by unfold vp_in; decide) dL_law_769 ?_
  refine gc_vi (As := [.int ((xs (1 : Int32).toNatClampNeg))]) (rest := [.int ((-1))]) (w0 := mw cI am mgI mdI mFI ++ ([(qo, .inl (cL, 1, .inr (.inl fo)))] ++ (wfC cI a u163))) (wc := mw cI am mgI mdI mFI) (wr := [(qo, .inl (cL, 1, .inr (.inl fo)))] ++ (wfC cI a u163)) (wf := wfM cI am) ⟨hx, hb, hml, hown, hts⟩ (KL_M hKK) (KM_ok D cI) hP hD hS hA [0, 1, 2, 3, 4, 5, 6] [7, 8, 9, 10, 11, 12, 13, 14, 15, 16, 17, 18, 19] rfl rfl (by decide) (i_X7_event l D cI am _ ((xs (1 : Int32).toNatClampNeg))) (cwV 1 hts gL_law_X7_event rfl rfl rfl (by decide +kernel) ⟨Nat.le_of_ble_eq_true rfl, Nat.le_of_ble_eq_true rfl⟩) (va_recv hK hP (ci := 7) (q0 := 0) rfl rfl) rfl hl.1 rfl (Nat.le_of_ble_eq_true rfl) dL_law_770 ⟨Nat.le_of_ble_eq_true rfl, Nat.le_of_ble_eq_true rfl⟩ (fun r166 u166 H locs hw166 hP hD hS => ?_)
  have hP : va_P D vwCl ([(qo, .inl (cL, 1, .inr (.inl fo)))] ++ (wfC cI a u163 ++ (wfM cI am u166))) H := hP
  have hD : va_D (fun q : Nat => s.heap.size ≤ q) ([(qo, .inl (cL, 1, .inr (.inl fo)))] ++ (wfC cI a u163 ++ (wfM cI am u166))) := hD
  subst hw166
  refine lv_icmp_eq (tgt := 778) hx hb dL_law_773 (by decide) (fun c167 => ?_) (fun c167 => absurd (rfl) c167)
  exact law_end C1 hS (lv_sub hl [0, 1, 2, 3, 4] rfl)
