/-! THE CLAIM OUT OF ONE WALK OF THE LAW'S BODY. Your part is whole_start (and what it stands on); all else here is the same for every law, but numbers. -/
def R_law : String := "GuardedCallsLaw"
def lw_P (b : Addr) (xs : List Int32) (args : Array Value) (s : State) : Prop := args = #[.ref b] ∧ s.IntsAt b xs ∧ xs.length ≤ 2560 ∧ (Jvm.Cond.and given_1 narrow_1).before args s = true
def lw_Q (_ : Array Value) (s : State) (o : Outcome) (t : State) : Prop := o = .returned (some (.int 1)) ∧ Framed s o t [] 660837 7113592
def lw_Z (below : List Frame) (a : Array Value) (s : State) : State → Prop := fun t => ∃ o, t.status = .running ∧ Ended t below o ∧ lw_Q a s o t
/-- the law's own end, with 1 on the stack, nothing written that was there before, its room as the claim has it -/
theorem lw_ret {p : Program} {l : Launch} {e : Env} {s : State} {m : MethodId} {below : List Frame} {meth : Method} {c : Code} {b : Nat} (hx : p.tables.exec = Jvm.exec) (hb : c.code = code) (hr : meth.sig.returnType = ret) (hlocks : meth.locks = false) {pc : Nat} {H : Heap} {ls : Array Slot} (hdg : decode code pc = .ok (.ireturn, 1)) : W p l e room_1 s m #[Value.ref b] below meth c H [] 660837 7113592 (lw_Z below #[Value.ref b] s) (F0 m pc ls [.int 1]) := by
  intro T hT X
  obtain ⟨fs, hret, hrun, hended, hW, hframe⟩ := X.leave (v := some (.int 1)) (hlocks := hlocks) (fun h => by rw [hr] at h; cases h)
  have hmeth' : T.vm.method? m = some meth := X.method'
  refine ⟨T.setFrames fs, ?_, .returned (some (.int 1)), hrun, hended, rfl, ⟨_, rfl⟩, hW, hframe⟩
  jvm_step X.here [X.here.top, hx, hb, hdg, hmeth', hr, ret, narrow_b1]
  (try refine ⟨rfl, ?_⟩); (try refine ⟨rfl, ?_⟩)
  first | (intro acts; rw [hret _ acts rfl rfl rfl]) | rw [hret _ _ rfl rfl rfl]
  exact Steps.refl _
/-- what holds at the law's entry: the machine, the code, the tables' words (any of lw_tbl by 'hts w (by decide +kernel)'), the script of L ints xs at the cell b, what the Statement gives of the start (any of its parts by flat_of_before) -/
def lw_At (p : Program) (s : State) (m : MethodId) (meth : Method) (c : Code) (b L : Nat) (xs : Nat → Int32) : Prop :=
  p.tables.exec = Jvm.exec ∧ c.code = code ∧ meth.sig.returnType = ret ∧ c.maxLocals = 9 ∧ s.vm.findClass R_law = some m.cls ∧ (∀ w ∈ lw_tbl, w.before #[Value.ref b] s = true) ∧ va_X b L xs s s.heap ∧ b < s.heap.size ∧ meth.locks = false ∧ (Jvm.Cond.and given_1 narrow_1).before #[Value.ref b] s = true
def LI (g : Nat → Int32) (d : Nat → UInt64) : Prop := CI g d ∧ 0 ≤ (g 0).toInt ∧ (g 0).toInt ≤ 5
def RR (g : Nat → Int32) (F : Nat → Nat → Int32) (mg : Nat → Int32) (mF : Nat → Nat → Int32) : Prop := True
theorem LI_cp {g : Nat → Int32} {d : Nat → UInt64} {F : Nat → Nat → Int32} {u : SS} (h : LI g d) (hw : CP g F u) : LI u.1 u.2.1 := ⟨hw.1, by rw [hw.2.1]; exact h.2.1, by rw [hw.2.1]; exact h.2.2⟩
section GZ
variable {p : Program} {l : Launch} {e : Env} {R : Room} {s : State} {m : MethodId} {args : Array Value} {below : List Frame} {meth : Method} {c : Code} {H : Heap} {locs : List Loc} {cells slots : Nat} {Q : State → Prop}
variable {pc : Nat} {ls : Array Slot} {rest st0 As : List Value} {A : Nat → Prop} {mc ms n index maxL nL : Nat} {y : MethodName} {bytes cc : ByteArray} {ret : Option FieldType} {Ts ws : List Cond} {rm : Room} {own C : String} {b : Addr} {D : va_G} {K : State → Prop} {w0 wc wr : va_W} {σ : Type} {wf : σ → va_W}
theorem gc_swz {post : Int32 → σ → Prop} {hh : List (Nat × Nat × Nat × Nat)} (S : CallFix p m c cc nL s args Ts own) (hk : K s) (hok : gOK K) (hz : ZZ A s s.heap) (hP : va_P D vwCl w0 H) (hD : va_D A w0) (hS : va_S A s.heap H locs) (hA : ∀ q, s.heap.size ≤ q → A q)
    (isC isR : List Nat) (hC : isC.map (fun i => w0[i]?) = wc.map some) (hR : isR.map (fun i => w0[i]?) = wr.map some) (hnd : va_nd isC = true ∧ va_nd isR = true ∧ ∀ i ∈ isR, i ∉ isC)
    (hM : Met l y ws rm (gPz K D wc H.size As) (va_Qi post (gB D wf (va_A wc H.size)) (va_A wc H.size)) mc ms (va_A wc H.size))
    (cw : vx_CSW R s args own index y bytes maxL ret hh ws rm mc ms n)
    (hn : As.length = n) (hsize : ls.size = nL) (hst : st0 = As.reverse ++ rest) (hrm : (rest.map fun v => v.category).sum ≤ 8) (hdg : decode cc pc = .ok (.invokestatic index, 3)) (hf : cells + mc ≤ R.cells ∧ slots + ms ≤ R.slots)
    (kk : ∀ (r : Int32) (u : σ) (H1 : Heap) (locs1 : List Loc), post r u → va_P D vwCl (wr ++ wf u) H1 → va_D A (wr ++ wf u) → va_S A s.heap H1 locs1 → W p l e R s m args below meth c H1 locs1 (cells + mc) (slots + ms) Q (F0 m (pc + 3) ls (.int r :: rest))) :
    W p l e R s m args below meth c H locs cells slots Q (F0 m pc ls st0) := by
  have hFc := va_free (wc := wc) hD hS hA isC hC
  refine va_calli (vx_runSW (As := As) (rest := rest) S hM cw ⟨gPz_blind hok, fun U hU hW => ⟨rfl, by rw [hU], by rw [hU]; exact gP_sub hP isC hC, (hD.sub isC hnd.1 hC).weaken (fun _ _ _ _ => trivial), hok.1 s U hW hk, ZZ_for hz hS hFc hU hW⟩⟩ rfl hn hsize hst (lv_room hrm) hdg hf) hS (fun q _ h => hFc q h) hFc (fun r u t H1 locs1 ht hvm hw hB hz1 hk1 hS1 => ?_)
  obtain ⟨hP1, hD1⟩ := hB
  rw [ht] at hP1
  obtain ⟨hP2, hD2⟩ := va_join (wr := wr) (w1 := wf u) hP hD isC isR hC hR hnd.2.1 hnd.2.2 hk1 hFc hP1 hD1
  exact kk r u H1 locs1 hw hP2 hD2 hS1
end GZ
theorem sx {j k : Nat} : nI (5 * j) + nI k = nI (5 * j + k) := nI_add _ _
theorem sx_in {j k L : Nat} (h : 5 * j + 5 ≤ L) (hL : L ≤ 2560) (hk : k < 5) : vp_in (nI (5 * j + k)) L := vp_in_nI (by omega) (by omega)
theorem lx_go {j L : Nat} {x : Int32} (hL : L ≤ 2560) (hj : 5 * j ≤ L) (e : x = Int32.ofNat L - 5) (h : ¬ x < nI (5 * j)) : 5 * j + 5 ≤ L := by
  rw [Int32.lt_iff_toInt_lt, nI_toInt (by omega), e, Int32.toInt_sub, show (Int32.ofNat L).toInt = (L : Int) from nI_toInt (n := L) (by omega), show (5 : Int32).toInt = 5 from rfl, Int.bmod_eq_of_le (by omega) (by omega)] at h
  omega
set_option maxHeartbeats 4000000 in
set_option maxRecDepth 100000 in
theorem law_case0 {p : Program} {l : Launch} {e : Env} {s : State} {m : MethodId} {below : List Frame} {meth : Method} {c : Code} {b L : Nat} {xs : Nat → Int32} (hst : l.stackTraces = false) (hL : L ≤ 2560) (C0 : lw_At p s m meth c b L xs) {D : va_G} {cI cL : ClassId} (hKL : KLX D cI cL s) (hZ : ZZ (fun q : Nat => s.heap.size ≤ q) s s.heap) {j : Nat} (hj : 5 * j + 5 ≤ L) {a am : Nat → Nat} {qo : Nat} {fo : Nat → Int64} {g : Nat → Int32} {d : Nat → UInt64} {F : Nat → Nat → Int32} {mg : Nat → Int32} {md : Nat → UInt64} {mF : Nat → Nat → Int32} {H : Heap} {locs : List Loc} {ls : Array Slot} (hLI : LI g d) (hMI : MI mg md mF) (hRR : RR g F mg mF) (hP : va_P D vwCl (cw cI a g d F ++ (mw cI am mg md mF ++ [(qo, .inl (cL, 1, .inr (.inl fo)))])) H) (hD : va_D (fun q : Nat => s.heap.size ≤ q) (cw cI a g d F ++ (mw cI am mg md mF ++ [(qo, .inl (cL, 1, .inr (.inl fo)))]))) (hS : va_S (fun q : Nat => s.heap.size ≤ q) s.heap H locs) (hl : lv_has ls 9 [(4, .int (nI (5 * j))), (3, .ref qo), (2, .ref (am 0)), (1, .ref (a 0)), (0, .ref b)]) (K0 : ∀ (fo : Nat → Int64) (g : Nat → Int32) (d : Nat → UInt64) (F : Nat → Nat → Int32) (mg : Nat → Int32) (md : Nat → UInt64) (mF : Nat → Nat → Int32) (H : Heap) (locs : List Loc) (ls : Array Slot), LI g d → MI mg md mF → RR g F mg mF → va_P D vwCl (cw cI a g d F ++ (mw cI am mg md mF ++ [(qo, .inl (cL, 1, .inr (.inl fo)))])) H → va_D (fun q : Nat => s.heap.size ≤ q) (cw cI a g d F ++ (mw cI am mg md mF ++ [(qo, .inl (cL, 1, .inr (.inl fo)))])) → va_S (fun q : Nat => s.heap.size ≤ q) s.heap H locs → lv_has ls 9 [(4, .int (nI (5 * j))), (3, .ref qo), (2, .ref (am 0)), (1, .ref (a 0)), (0, .ref b)] → W p l e room_1 s m #[Value.ref b] below meth c H locs (20 + (j + 1)) (248 + 6 * (j + 1)) (lw_Z below #[Value.ref b] s) (F0 m 698 ls [])) : W p l e room_1 s m #[Value.ref b] below meth c H locs (20 + j) (248 + 6 * j) (lw_Z below #[Value.ref b] s) (F0 m 120 ls []) := by
  obtain ⟨hx, hb, hr, hml, hown, hts, hX, hbl, hlocks, hgv⟩ := C0
  have hts := fun w h => hts w (wsL_law_in w h)
  have hK := hKL.1
  have hA : ∀ q : Nat, s.heap.size ≤ q → (fun q : Nat => s.heap.size ≤ q) q := fun _ h => h
  have hbA : ¬ (fun q : Nat => s.heap.size ≤ q) b := Nat.not_le.mpr hbl
  refine lv_aload_n hx hb dL_law_120 rfl (lv_at hl 3 rfl) ?_
  refine lv_aload_n hx hb dL_law_121 rfl (lv_at hl 4 rfl) ?_
  refine lv_iload hx hb dL_law_122 (lv_at hl 0 rfl) ?_
  refine lv_iconst (v := 1) hx hb dL_law_124 (by decide) ?_
  refine lv_iadd hx hb dL_law_125 ?_
  refine lv_topi (fun x1 e1 => ?_)
  obtain rfl : x1 = nI (5 * j + 1) := e1.trans sx
  refine va_sld hx hb hX hbl hbA hS (sx_in (k := 1) hj hL (by decide)) dL_law_126 ?_
  refine lv_aload_n hx hb dL_law_127 rfl (lv_at hl 4 rfl) ?_
  refine lv_iload hx hb dL_law_128 (lv_at hl 0 rfl) ?_
  refine lv_iconst (v := 2) hx hb dL_law_130 (by decide) ?_
  refine lv_iadd hx hb dL_law_131 ?_
  refine lv_topi (fun x2 e2 => ?_)
  obtain rfl : x2 = nI (5 * j + 2) := e2.trans sx
  refine va_sld hx hb hX hbl hbA hS (sx_in (k := 2) hj hL (by decide)) dL_law_132 ?_
  refine lv_aload_n hx hb dL_law_133 rfl (lv_at hl 4 rfl) ?_
  refine lv_iload hx hb dL_law_134 (lv_at hl 0 rfl) ?_
  refine lv_iconst (v := 3) hx hb dL_law_136 (by decide) ?_
  refine lv_iadd hx hb dL_law_137 ?_
  refine lv_topi (fun x3 e3 => ?_)
  obtain rfl : x3 = nI (5 * j + 3) := e3.trans sx
  refine va_sld hx hb hX hbl hbA hS (sx_in (k := 3) hj hL (by decide)) dL_law_138 ?_
  refine lv_aload_n hx hb dL_law_139 rfl (lv_at hl 4 rfl) ?_
  refine lv_iload hx hb dL_law_140 (lv_at hl 0 rfl) ?_
  refine lv_iconst (v := 4) hx hb dL_law_142 (by decide) ?_
  refine lv_iadd hx hb dL_law_143 ?_
  refine lv_topi (fun x4 e4 => ?_)
  obtain rfl : x4 = nI (5 * j + 4) := e4.trans sx
  refine va_sld hx hb hX hbl hbA hS (sx_in (k := 4) hj hL (by decide)) dL_law_144 ?_
  refine gc_vi (mc := 0) (ms := 0) (As := [.int ((xs (nI (5 * j + 1)).toNatClampNeg)), .int ((xs (nI (5 * j + 2)).toNatClampNeg)), .int ((xs (nI (5 * j + 3)).toNatClampNeg)), .int ((xs (nI (5 * j + 4)).toNatClampNeg))]) (rest := []) (w0 := cw cI a g d F ++ (mw cI am mg md mF ++ ([(qo, .inl (cL, 1, .inr (.inl fo)))]))) (wc := cw cI a g d F) (wr := mw cI am mg md mF ++ ([(qo, .inl (cL, 1, .inr (.inl fo)))])) (wf := wfC cI a) ⟨hx, hb, hml, hown, hts⟩ (KLX_C hKL) (KC_ok D cI) hP hD hS hA [0, 1, 2, 3, 4, 5, 6, 7, 8, 9, 10, 11] [12, 13, 14, 15, 16, 17, 18, 19] rfl rfl (by decide) (s_X6_breaker l D cI a _ g d F ((xs (nI (5 * j + 1)).toNatClampNeg)) ((xs (nI (5 * j + 2)).toNatClampNeg)) ((xs (nI (5 * j + 3)).toNatClampNeg)) ((xs (nI (5 * j + 4)).toNatClampNeg)) hLI.1) (cwV 4 hts gL_law_X6_breaker rfl rfl rfl (by decide +kernel) ⟨Nat.le_of_ble_eq_true rfl, Nat.le_of_ble_eq_true rfl⟩) (va_recv hK hP (ci := 6) (q0 := 0) rfl rfl) rfl hl.1 rfl (Nat.le_of_ble_eq_true rfl) dL_law_145 ⟨(show 20 + j + 0 ≤ 660837 from by omega), (show 248 + 6 * j + 0 ≤ 7113592 from by omega)⟩ (fun r5 u5 H locs hw5 hP hD hS => ?_)
  obtain ⟨g5, d5, F5⟩ := u5
  have hP : va_P D vwCl (mw cI am mg md mF ++ ([(qo, .inl (cL, 1, .inr (.inl fo)))] ++ (cw cI a g5 d5 F5))) H := hP
  have hD : va_D (fun q : Nat => s.heap.size ≤ q) (mw cI am mg md mF ++ ([(qo, .inl (cL, 1, .inr (.inl fo)))] ++ (cw cI a g5 d5 F5))) := hD
  refine W.widen (k := 20 + j) (n := 248 + 6 * j) (by omega) (by omega) ?_
  have hr5 : r5 = sp_breaker ((xs (nI (5 * j + 1)).toNatClampNeg)) ((xs (nI (5 * j + 2)).toNatClampNeg)) ((xs (nI (5 * j + 3)).toNatClampNeg)) ((xs (nI (5 * j + 4)).toNatClampNeg)) := hw5.1
  rw [hr5]
  refine lv_aload_n hx hb dL_law_148 rfl (lv_at hl 2 rfl) ?_
  refine lv_aload_n hx hb dL_law_149 rfl (lv_at hl 4 rfl) ?_
  refine lv_iload hx hb dL_law_150 (lv_at hl 0 rfl) ?_
  refine lv_iconst (v := 1) hx hb dL_law_152 (by decide) ?_
  refine lv_iadd hx hb dL_law_153 ?_
  refine lv_topi (fun x6 e6 => ?_)
  obtain rfl : x6 = nI (5 * j + 1) := e6.trans sx
  refine va_sld hx hb hX hbl hbA hS (sx_in (k := 1) hj hL (by decide)) dL_law_154 ?_
  refine lv_aload_n hx hb dL_law_155 rfl (lv_at hl 4 rfl) ?_
  refine lv_iload hx hb dL_law_156 (lv_at hl 0 rfl) ?_
  refine lv_iconst (v := 2) hx hb dL_law_158 (by decide) ?_
  refine lv_iadd hx hb dL_law_159 ?_
  refine lv_topi (fun x7 e7 => ?_)
  obtain rfl : x7 = nI (5 * j + 2) := e7.trans sx
  refine va_sld hx hb hX hbl hbA hS (sx_in (k := 2) hj hL (by decide)) dL_law_160 ?_
  refine lv_aload_n hx hb dL_law_161 rfl (lv_at hl 4 rfl) ?_
  refine lv_iload hx hb dL_law_162 (lv_at hl 0 rfl) ?_
  refine lv_iconst (v := 3) hx hb dL_law_164 (by decide) ?_
  refine lv_iadd hx hb dL_law_165 ?_
  refine lv_topi (fun x8 e8 => ?_)
  obtain rfl : x8 = nI (5 * j + 3) := e8.trans sx
  refine va_sld hx hb hX hbl hbA hS (sx_in (k := 3) hj hL (by decide)) dL_law_166 ?_
  refine lv_aload_n hx hb dL_law_167 rfl (lv_at hl 4 rfl) ?_
  refine lv_iload hx hb dL_law_168 (lv_at hl 0 rfl) ?_
  refine lv_iconst (v := 4) hx hb dL_law_170 (by decide) ?_
  refine lv_iadd hx hb dL_law_171 ?_
  refine lv_topi (fun x9 e9 => ?_)
  obtain rfl : x9 = nI (5 * j + 4) := e9.trans sx
  refine va_sld hx hb hX hbl hbA hS (sx_in (k := 4) hj hL (by decide)) dL_law_172 ?_
  refine gc_vi (mc := 0) (ms := 0) (As := [.int ((xs (nI (5 * j + 1)).toNatClampNeg)), .int ((xs (nI (5 * j + 2)).toNatClampNeg)), .int ((xs (nI (5 * j + 3)).toNatClampNeg)), .int ((xs (nI (5 * j + 4)).toNatClampNeg))]) (rest := [.int ((sp_breaker ((xs (nI (5 * j + 1)).toNatClampNeg)) ((xs (nI (5 * j + 2)).toNatClampNeg)) ((xs (nI (5 * j + 3)).toNatClampNeg)) ((xs (nI (5 * j + 4)).toNatClampNeg))))]) (w0 := mw cI am mg md mF ++ ([(qo, .inl (cL, 1, .inr (.inl fo)))] ++ (cw cI a g5 d5 F5))) (wc := mw cI am mg md mF) (wr := [(qo, .inl (cL, 1, .inr (.inl fo)))] ++ (cw cI a g5 d5 F5)) (wf := wfM cI am) ⟨hx, hb, hml, hown, hts⟩ (KLX_M hKL) (KM_ok D cI) hP hD hS hA [0, 1, 2, 3, 4, 5, 6] [7, 8, 9, 10, 11, 12, 13, 14, 15, 16, 17, 18, 19] rfl rfl (by decide) (s_X7_breaker l D cI am _ mg md mF ((xs (nI (5 * j + 1)).toNatClampNeg)) ((xs (nI (5 * j + 2)).toNatClampNeg)) ((xs (nI (5 * j + 3)).toNatClampNeg)) ((xs (nI (5 * j + 4)).toNatClampNeg)) hMI) (cwV 4 hts gL_law_X7_breaker rfl rfl rfl (by decide +kernel) ⟨Nat.le_of_ble_eq_true rfl, Nat.le_of_ble_eq_true rfl⟩) (va_recv hK hP (ci := 7) (q0 := 0) rfl rfl) rfl hl.1 rfl (Nat.le_of_ble_eq_true rfl) dL_law_173 ⟨(show 20 + j + 0 ≤ 660837 from by omega), (show 248 + 6 * j + 0 ≤ 7113592 from by omega)⟩ (fun r10 u10 H locs hw10 hP hD hS => ?_)
  obtain ⟨mg10, md10, mF10⟩ := u10
  have hP : va_P D vwCl ([(qo, .inl (cL, 1, .inr (.inl fo)))] ++ (cw cI a g5 d5 F5 ++ (mw cI am mg10 md10 mF10))) H := hP
  have hD : va_D (fun q : Nat => s.heap.size ≤ q) ([(qo, .inl (cL, 1, .inr (.inl fo)))] ++ (cw cI a g5 d5 F5 ++ (mw cI am mg10 md10 mF10))) := hD
  refine W.widen (k := 20 + j) (n := 248 + 6 * j) (by omega) (by omega) ?_
  have hr10 : r10 = sp_breaker ((xs (nI (5 * j + 1)).toNatClampNeg)) ((xs (nI (5 * j + 2)).toNatClampNeg)) ((xs (nI (5 * j + 3)).toNatClampNeg)) ((xs (nI (5 * j + 4)).toNatClampNeg)) := hw10.1
  rw [hr10]
  refine lv_icmp_eq (tgt := 698) hx hb dL_law_176 (by decide) (fun c11 => ?_) (fun c11 => absurd (rfl) c11)
  refine W.widen (k := 20 + (j + 1)) (n := 248 + 6 * (j + 1)) (by omega) (by omega) ?_
  exact K0 fo g5 d5 F5 mg10 md10 mF10 H locs ls (LI_cp hLI hw5.2) hw10.2.1 trivial (hP.sub [1, 2, 3, 4, 5, 6, 7, 8, 9, 10, 11, 12, 13, 14, 15, 16, 17, 18, 19, 0] rfl) (hD.sub [1, 2, 3, 4, 5, 6, 7, 8, 9, 10, 11, 12, 13, 14, 15, 16, 17, 18, 19, 0] (by decide) rfl) hS (lv_sub hl [0, 1, 2, 3, 4] rfl)
set_option maxHeartbeats 4000000 in
set_option maxRecDepth 100000 in
theorem law_case1 {p : Program} {l : Launch} {e : Env} {s : State} {m : MethodId} {below : List Frame} {meth : Method} {c : Code} {b L : Nat} {xs : Nat → Int32} (hst : l.stackTraces = false) (hL : L ≤ 2560) (C0 : lw_At p s m meth c b L xs) {D : va_G} {cI cL : ClassId} (hKL : KLX D cI cL s) (hZ : ZZ (fun q : Nat => s.heap.size ≤ q) s s.heap) {j : Nat} (hj : 5 * j + 5 ≤ L) {a am : Nat → Nat} {qo : Nat} {fo : Nat → Int64} {g : Nat → Int32} {d : Nat → UInt64} {F : Nat → Nat → Int32} {mg : Nat → Int32} {md : Nat → UInt64} {mF : Nat → Nat → Int32} {H : Heap} {locs : List Loc} {ls : Array Slot} (hLI : LI g d) (hMI : MI mg md mF) (hRR : RR g F mg mF) (hP : va_P D vwCl (cw cI a g d F ++ (mw cI am mg md mF ++ [(qo, .inl (cL, 1, .inr (.inl fo)))])) H) (hD : va_D (fun q : Nat => s.heap.size ≤ q) (cw cI a g d F ++ (mw cI am mg md mF ++ [(qo, .inl (cL, 1, .inr (.inl fo)))]))) (hS : va_S (fun q : Nat => s.heap.size ≤ q) s.heap H locs) (hl : lv_has ls 9 [(4, .int (nI (5 * j))), (3, .ref qo), (2, .ref (am 0)), (1, .ref (a 0)), (0, .ref b)]) (K0 : ∀ (fo : Nat → Int64) (g : Nat → Int32) (d : Nat → UInt64) (F : Nat → Nat → Int32) (mg : Nat → Int32) (md : Nat → UInt64) (mF : Nat → Nat → Int32) (H : Heap) (locs : List Loc) (ls : Array Slot), LI g d → MI mg md mF → RR g F mg mF → va_P D vwCl (cw cI a g d F ++ (mw cI am mg md mF ++ [(qo, .inl (cL, 1, .inr (.inl fo)))])) H → va_D (fun q : Nat => s.heap.size ≤ q) (cw cI a g d F ++ (mw cI am mg md mF ++ [(qo, .inl (cL, 1, .inr (.inl fo)))])) → va_S (fun q : Nat => s.heap.size ≤ q) s.heap H locs → lv_has ls 9 [(4, .int (nI (5 * j))), (3, .ref qo), (2, .ref (am 0)), (1, .ref (a 0)), (0, .ref b)] → W p l e room_1 s m #[Value.ref b] below meth c H locs (20 + (j + 1)) (248 + 6 * (j + 1)) (lw_Z below #[Value.ref b] s) (F0 m 698 ls [])) : W p l e room_1 s m #[Value.ref b] below meth c H locs (20 + j) (248 + 6 * j) (lw_Z below #[Value.ref b] s) (F0 m 181 ls []) := by
  obtain ⟨hx, hb, hr, hml, hown, hts, hX, hbl, hlocks, hgv⟩ := C0
  have hts := fun w h => hts w (wsL_law_in w h)
  have hK := hKL.1
  have hA : ∀ q : Nat, s.heap.size ≤ q → (fun q : Nat => s.heap.size ≤ q) q := fun _ h => h
  have hbA : ¬ (fun q : Nat => s.heap.size ≤ q) b := Nat.not_le.mpr hbl
  refine lv_aload_n hx hb dL_law_181 rfl (lv_at hl 3 rfl) ?_
  refine lv_aload_n hx hb dL_law_182 rfl (lv_at hl 4 rfl) ?_
  refine lv_iload hx hb dL_law_183 (lv_at hl 0 rfl) ?_
  refine lv_iconst (v := 1) hx hb dL_law_185 (by decide) ?_
  refine lv_iadd hx hb dL_law_186 ?_
  refine lv_topi (fun x12 e12 => ?_)
  obtain rfl : x12 = nI (5 * j + 1) := e12.trans sx
  refine va_sld hx hb hX hbl hbA hS (sx_in (k := 1) hj hL (by decide)) dL_law_187 ?_
  refine lv_i2d hx hb dL_law_188 ?_
  refine lv_ldc2d (v := 4593671619917905920) hx hb hown (hts (.constantDouble RL 34 (4593671619917905920)) (by decide +kernel)) dL_law_189 ?_
  refine lv_dmul hx hb dL_law_192 (n64_eighth _) ?_
  refine lv_aload_n hx hb dL_law_193 rfl (lv_at hl 4 rfl) ?_
  refine lv_iload hx hb dL_law_194 (lv_at hl 0 rfl) ?_
  refine lv_iconst (v := 2) hx hb dL_law_196 (by decide) ?_
  refine lv_iadd hx hb dL_law_197 ?_
  refine lv_topi (fun x13 e13 => ?_)
  obtain rfl : x13 = nI (5 * j + 2) := e13.trans sx
  refine va_sld hx hb hX hbl hbA hS (sx_in (k := 2) hj hL (by decide)) dL_law_198 ?_
  refine lv_i2d hx hb dL_law_199 ?_
  refine lv_ldc2d (v := 4593671619917905920) hx hb hown (hts (.constantDouble RL 34 (4593671619917905920)) (by decide +kernel)) dL_law_200 ?_
  refine lv_dmul hx hb dL_law_203 (n64_eighth _) ?_
  refine lv_aload_n hx hb dL_law_204 rfl (lv_at hl 4 rfl) ?_
  refine lv_iload hx hb dL_law_205 (lv_at hl 0 rfl) ?_
  refine lv_iconst (v := 3) hx hb dL_law_207 (by decide) ?_
  refine lv_iadd hx hb dL_law_208 ?_
  refine lv_topi (fun x14 e14 => ?_)
  obtain rfl : x14 = nI (5 * j + 3) := e14.trans sx
  refine va_sld hx hb hX hbl hbA hS (sx_in (k := 3) hj hL (by decide)) dL_law_209 ?_
  refine gc_vi (mc := 0) (ms := 0) (As := [.double ((FP.dmul (FP.i2d (xs (nI (5 * j + 1)).toNatClampNeg)) 4593671619917905920)), .double ((FP.dmul (FP.i2d (xs (nI (5 * j + 2)).toNatClampNeg)) 4593671619917905920)), .int ((xs (nI (5 * j + 3)).toNatClampNeg))]) (rest := []) (w0 := cw cI a g d F ++ (mw cI am mg md mF ++ ([(qo, .inl (cL, 1, .inr (.inl fo)))]))) (wc := cw cI a g d F) (wr := mw cI am mg md mF ++ ([(qo, .inl (cL, 1, .inr (.inl fo)))])) (wf := wfC cI a) ⟨hx, hb, hml, hown, hts⟩ (KLX_C hKL) (KC_ok D cI) hP hD hS hA [0, 1, 2, 3, 4, 5, 6, 7, 8, 9, 10, 11] [12, 13, 14, 15, 16, 17, 18, 19] rfl rfl (by decide) (s_X6_trips l D cI a _ g d F ((FP.dmul (FP.i2d (xs (nI (5 * j + 1)).toNatClampNeg)) 4593671619917905920)) ((FP.dmul (FP.i2d (xs (nI (5 * j + 2)).toNatClampNeg)) 4593671619917905920)) ((xs (nI (5 * j + 3)).toNatClampNeg)) hLI.1) (cwV 3 hts gL_law_X6_trips rfl rfl rfl (by decide +kernel) ⟨Nat.le_of_ble_eq_true rfl, Nat.le_of_ble_eq_true rfl⟩) (va_recv hK hP (ci := 6) (q0 := 0) rfl rfl) rfl hl.1 rfl (Nat.le_of_ble_eq_true rfl) dL_law_210 ⟨(show 20 + j + 0 ≤ 660837 from by omega), (show 248 + 6 * j + 0 ≤ 7113592 from by omega)⟩ (fun r15 u15 H locs hw15 hP hD hS => ?_)
  obtain ⟨g15, d15, F15⟩ := u15
  have hP : va_P D vwCl (mw cI am mg md mF ++ ([(qo, .inl (cL, 1, .inr (.inl fo)))] ++ (cw cI a g15 d15 F15))) H := hP
  have hD : va_D (fun q : Nat => s.heap.size ≤ q) (mw cI am mg md mF ++ ([(qo, .inl (cL, 1, .inr (.inl fo)))] ++ (cw cI a g15 d15 F15))) := hD
  refine W.widen (k := 20 + j) (n := 248 + 6 * j) (by omega) (by omega) ?_
  refine lv_pop hx hb dL_law_213 rfl ?_
  refine lv_aload_n hx hb dL_law_214 rfl (lv_at hl 2 rfl) ?_
  refine lv_aload_n hx hb dL_law_215 rfl (lv_at hl 4 rfl) ?_
  refine lv_iload hx hb dL_law_216 (lv_at hl 0 rfl) ?_
  refine lv_iconst (v := 1) hx hb dL_law_218 (by decide) ?_
  refine lv_iadd hx hb dL_law_219 ?_
  refine lv_topi (fun x16 e16 => ?_)
  obtain rfl : x16 = nI (5 * j + 1) := e16.trans sx
  refine va_sld hx hb hX hbl hbA hS (sx_in (k := 1) hj hL (by decide)) dL_law_220 ?_
  refine lv_i2d hx hb dL_law_221 ?_
  refine lv_ldc2d (v := 4593671619917905920) hx hb hown (hts (.constantDouble RL 34 (4593671619917905920)) (by decide +kernel)) dL_law_222 ?_
  refine lv_dmul hx hb dL_law_225 (n64_eighth _) ?_
  refine lv_aload_n hx hb dL_law_226 rfl (lv_at hl 4 rfl) ?_
  refine lv_iload hx hb dL_law_227 (lv_at hl 0 rfl) ?_
  refine lv_iconst (v := 2) hx hb dL_law_229 (by decide) ?_
  refine lv_iadd hx hb dL_law_230 ?_
  refine lv_topi (fun x17 e17 => ?_)
  obtain rfl : x17 = nI (5 * j + 2) := e17.trans sx
  refine va_sld hx hb hX hbl hbA hS (sx_in (k := 2) hj hL (by decide)) dL_law_231 ?_
  refine lv_i2d hx hb dL_law_232 ?_
  refine lv_ldc2d (v := 4593671619917905920) hx hb hown (hts (.constantDouble RL 34 (4593671619917905920)) (by decide +kernel)) dL_law_233 ?_
  refine lv_dmul hx hb dL_law_236 (n64_eighth _) ?_
  refine lv_aload_n hx hb dL_law_237 rfl (lv_at hl 4 rfl) ?_
  refine lv_iload hx hb dL_law_238 (lv_at hl 0 rfl) ?_
  refine lv_iconst (v := 3) hx hb dL_law_240 (by decide) ?_
  refine lv_iadd hx hb dL_law_241 ?_
  refine lv_topi (fun x18 e18 => ?_)
  obtain rfl : x18 = nI (5 * j + 3) := e18.trans sx
  refine va_sld hx hb hX hbl hbA hS (sx_in (k := 3) hj hL (by decide)) dL_law_242 ?_
  refine gc_vi (mc := 0) (ms := 0) (As := [.double ((FP.dmul (FP.i2d (xs (nI (5 * j + 1)).toNatClampNeg)) 4593671619917905920)), .double ((FP.dmul (FP.i2d (xs (nI (5 * j + 2)).toNatClampNeg)) 4593671619917905920)), .int ((xs (nI (5 * j + 3)).toNatClampNeg))]) (rest := []) (w0 := mw cI am mg md mF ++ ([(qo, .inl (cL, 1, .inr (.inl fo)))] ++ (cw cI a g15 d15 F15))) (wc := mw cI am mg md mF) (wr := [(qo, .inl (cL, 1, .inr (.inl fo)))] ++ (cw cI a g15 d15 F15)) (wf := wfM cI am) ⟨hx, hb, hml, hown, hts⟩ (KLX_M hKL) (KM_ok D cI) hP hD hS hA [0, 1, 2, 3, 4, 5, 6] [7, 8, 9, 10, 11, 12, 13, 14, 15, 16, 17, 18, 19] rfl rfl (by decide) (s_X7_trips l D cI am _ mg md mF ((FP.dmul (FP.i2d (xs (nI (5 * j + 1)).toNatClampNeg)) 4593671619917905920)) ((FP.dmul (FP.i2d (xs (nI (5 * j + 2)).toNatClampNeg)) 4593671619917905920)) ((xs (nI (5 * j + 3)).toNatClampNeg)) hMI) (cwV 3 hts gL_law_X7_trips rfl rfl rfl (by decide +kernel) ⟨Nat.le_of_ble_eq_true rfl, Nat.le_of_ble_eq_true rfl⟩) (va_recv hK hP (ci := 7) (q0 := 0) rfl rfl) rfl hl.1 rfl (Nat.le_of_ble_eq_true rfl) dL_law_243 ⟨(show 20 + j + 0 ≤ 660837 from by omega), (show 248 + 6 * j + 0 ≤ 7113592 from by omega)⟩ (fun r19 u19 H locs hw19 hP hD hS => ?_)
  obtain ⟨mg19, md19, mF19⟩ := u19
  have hP : va_P D vwCl ([(qo, .inl (cL, 1, .inr (.inl fo)))] ++ (cw cI a g15 d15 F15 ++ (mw cI am mg19 md19 mF19))) H := hP
  have hD : va_D (fun q : Nat => s.heap.size ≤ q) ([(qo, .inl (cL, 1, .inr (.inl fo)))] ++ (cw cI a g15 d15 F15 ++ (mw cI am mg19 md19 mF19))) := hD
  refine W.widen (k := 20 + j) (n := 248 + 6 * j) (by omega) (by omega) ?_
  refine lv_pop hx hb dL_law_246 rfl ?_
  refine lv_goto (tgt := 698) hx hb dL_law_247 (by decide) ?_
  refine W.widen (k := 20 + (j + 1)) (n := 248 + 6 * (j + 1)) (by omega) (by omega) ?_
  exact K0 fo g15 d15 F15 mg19 md19 mF19 H locs ls (LI_cp hLI hw15.2) hw19.2.1 trivial (hP.sub [1, 2, 3, 4, 5, 6, 7, 8, 9, 10, 11, 12, 13, 14, 15, 16, 17, 18, 19, 0] rfl) (hD.sub [1, 2, 3, 4, 5, 6, 7, 8, 9, 10, 11, 12, 13, 14, 15, 16, 17, 18, 19, 0] (by decide) rfl) hS (lv_sub hl [0, 1, 2, 3, 4] rfl)
set_option maxHeartbeats 4000000 in
set_option maxRecDepth 100000 in
theorem law_case2 {p : Program} {l : Launch} {e : Env} {s : State} {m : MethodId} {below : List Frame} {meth : Method} {c : Code} {b L : Nat} {xs : Nat → Int32} (hst : l.stackTraces = false) (hL : L ≤ 2560) (C0 : lw_At p s m meth c b L xs) {D : va_G} {cI cL : ClassId} (hKL : KLX D cI cL s) (hZ : ZZ (fun q : Nat => s.heap.size ≤ q) s s.heap) {j : Nat} (hj : 5 * j + 5 ≤ L) {a am : Nat → Nat} {qo : Nat} {fo : Nat → Int64} {g : Nat → Int32} {d : Nat → UInt64} {F : Nat → Nat → Int32} {mg : Nat → Int32} {md : Nat → UInt64} {mF : Nat → Nat → Int32} {H : Heap} {locs : List Loc} {ls : Array Slot} (hLI : LI g d) (hMI : MI mg md mF) (hRR : RR g F mg mF) (hP : va_P D vwCl (cw cI a g d F ++ (mw cI am mg md mF ++ [(qo, .inl (cL, 1, .inr (.inl fo)))])) H) (hD : va_D (fun q : Nat => s.heap.size ≤ q) (cw cI a g d F ++ (mw cI am mg md mF ++ [(qo, .inl (cL, 1, .inr (.inl fo)))]))) (hS : va_S (fun q : Nat => s.heap.size ≤ q) s.heap H locs) (hl : lv_has ls 9 [(4, .int (nI (5 * j))), (3, .ref qo), (2, .ref (am 0)), (1, .ref (a 0)), (0, .ref b)]) (K0 : ∀ (fo : Nat → Int64) (g : Nat → Int32) (d : Nat → UInt64) (F : Nat → Nat → Int32) (mg : Nat → Int32) (md : Nat → UInt64) (mF : Nat → Nat → Int32) (H : Heap) (locs : List Loc) (ls : Array Slot), LI g d → MI mg md mF → RR g F mg mF → va_P D vwCl (cw cI a g d F ++ (mw cI am mg md mF ++ [(qo, .inl (cL, 1, .inr (.inl fo)))])) H → va_D (fun q : Nat => s.heap.size ≤ q) (cw cI a g d F ++ (mw cI am mg md mF ++ [(qo, .inl (cL, 1, .inr (.inl fo)))])) → va_S (fun q : Nat => s.heap.size ≤ q) s.heap H locs → lv_has ls 9 [(4, .int (nI (5 * j))), (3, .ref qo), (2, .ref (am 0)), (1, .ref (a 0)), (0, .ref b)] → W p l e room_1 s m #[Value.ref b] below meth c H locs (20 + (j + 1)) (248 + 6 * (j + 1)) (lw_Z below #[Value.ref b] s) (F0 m 698 ls [])) : W p l e room_1 s m #[Value.ref b] below meth c H locs (20 + j) (248 + 6 * j) (lw_Z below #[Value.ref b] s) (F0 m 250 ls []) := by
  obtain ⟨hx, hb, hr, hml, hown, hts, hX, hbl, hlocks, hgv⟩ := C0
  have hts := fun w h => hts w (wsL_law_in w h)
  have hK := hKL.1
  have hA : ∀ q : Nat, s.heap.size ≤ q → (fun q : Nat => s.heap.size ≤ q) q := fun _ h => h
  have hbA : ¬ (fun q : Nat => s.heap.size ≤ q) b := Nat.not_le.mpr hbl
  refine lv_aload_n hx hb dL_law_250 rfl (lv_at hl 3 rfl) ?_
  refine lv_aload_n hx hb dL_law_251 rfl (lv_at hl 4 rfl) ?_
  refine lv_iload hx hb dL_law_252 (lv_at hl 0 rfl) ?_
  refine lv_iconst (v := 1) hx hb dL_law_254 (by decide) ?_
  refine lv_iadd hx hb dL_law_255 ?_
  refine lv_topi (fun x20 e20 => ?_)
  obtain rfl : x20 = nI (5 * j + 1) := e20.trans sx
  refine va_sld hx hb hX hbl hbA hS (sx_in (k := 1) hj hL (by decide)) dL_law_256 ?_
  refine gc_vi (mc := 0) (ms := 0) (As := [.int ((xs (nI (5 * j + 1)).toNatClampNeg))]) (rest := []) (w0 := cw cI a g d F ++ (mw cI am mg md mF ++ ([(qo, .inl (cL, 1, .inr (.inl fo)))]))) (wc := cw cI a g d F) (wr := mw cI am mg md mF ++ ([(qo, .inl (cL, 1, .inr (.inl fo)))])) (wf := wfC cI a) ⟨hx, hb, hml, hown, hts⟩ (KLX_C hKL) (KC_ok D cI) hP hD hS hA [0, 1, 2, 3, 4, 5, 6, 7, 8, 9, 10, 11] [12, 13, 14, 15, 16, 17, 18, 19] rfl rfl (by decide) (s_X6_bulkhead l D cI a _ g d F ((xs (nI (5 * j + 1)).toNatClampNeg)) hLI.1) (cwV 1 hts gL_law_X6_bulkhead rfl rfl rfl (by decide +kernel) ⟨Nat.le_of_ble_eq_true rfl, Nat.le_of_ble_eq_true rfl⟩) (va_recv hK hP (ci := 6) (q0 := 0) rfl rfl) rfl hl.1 rfl (Nat.le_of_ble_eq_true rfl) dL_law_257 ⟨(show 20 + j + 0 ≤ 660837 from by omega), (show 248 + 6 * j + 0 ≤ 7113592 from by omega)⟩ (fun r21 u21 H locs hw21 hP hD hS => ?_)
  obtain ⟨g21, d21, F21⟩ := u21
  have hP : va_P D vwCl (mw cI am mg md mF ++ ([(qo, .inl (cL, 1, .inr (.inl fo)))] ++ (cw cI a g21 d21 F21))) H := hP
  have hD : va_D (fun q : Nat => s.heap.size ≤ q) (mw cI am mg md mF ++ ([(qo, .inl (cL, 1, .inr (.inl fo)))] ++ (cw cI a g21 d21 F21))) := hD
  refine W.widen (k := 20 + j) (n := 248 + 6 * j) (by omega) (by omega) ?_
  refine lv_pop hx hb dL_law_260 rfl ?_
  refine lv_aload_n hx hb dL_law_261 rfl (lv_at hl 2 rfl) ?_
  refine lv_aload_n hx hb dL_law_262 rfl (lv_at hl 4 rfl) ?_
  refine lv_iload hx hb dL_law_263 (lv_at hl 0 rfl) ?_
  refine lv_iconst (v := 1) hx hb dL_law_265 (by decide) ?_
  refine lv_iadd hx hb dL_law_266 ?_
  refine lv_topi (fun x22 e22 => ?_)
  obtain rfl : x22 = nI (5 * j + 1) := e22.trans sx
  refine va_sld hx hb hX hbl hbA hS (sx_in (k := 1) hj hL (by decide)) dL_law_267 ?_
  refine gc_vi (mc := 0) (ms := 0) (As := [.int ((xs (nI (5 * j + 1)).toNatClampNeg))]) (rest := []) (w0 := mw cI am mg md mF ++ ([(qo, .inl (cL, 1, .inr (.inl fo)))] ++ (cw cI a g21 d21 F21))) (wc := mw cI am mg md mF) (wr := [(qo, .inl (cL, 1, .inr (.inl fo)))] ++ (cw cI a g21 d21 F21)) (wf := wfM cI am) ⟨hx, hb, hml, hown, hts⟩ (KLX_M hKL) (KM_ok D cI) hP hD hS hA [0, 1, 2, 3, 4, 5, 6] [7, 8, 9, 10, 11, 12, 13, 14, 15, 16, 17, 18, 19] rfl rfl (by decide) (s_X7_bulkhead l D cI am _ mg md mF ((xs (nI (5 * j + 1)).toNatClampNeg)) hMI) (cwV 1 hts gL_law_X7_bulkhead rfl rfl rfl (by decide +kernel) ⟨Nat.le_of_ble_eq_true rfl, Nat.le_of_ble_eq_true rfl⟩) (va_recv hK hP (ci := 7) (q0 := 0) rfl rfl) rfl hl.1 rfl (Nat.le_of_ble_eq_true rfl) dL_law_268 ⟨(show 20 + j + 0 ≤ 660837 from by omega), (show 248 + 6 * j + 0 ≤ 7113592 from by omega)⟩ (fun r23 u23 H locs hw23 hP hD hS => ?_)
  obtain ⟨mg23, md23, mF23⟩ := u23
  have hP : va_P D vwCl ([(qo, .inl (cL, 1, .inr (.inl fo)))] ++ (cw cI a g21 d21 F21 ++ (mw cI am mg23 md23 mF23))) H := hP
  have hD : va_D (fun q : Nat => s.heap.size ≤ q) ([(qo, .inl (cL, 1, .inr (.inl fo)))] ++ (cw cI a g21 d21 F21 ++ (mw cI am mg23 md23 mF23))) := hD
  refine W.widen (k := 20 + j) (n := 248 + 6 * j) (by omega) (by omega) ?_
  refine lv_pop hx hb dL_law_271 rfl ?_
  refine lv_goto (tgt := 698) hx hb dL_law_272 (by decide) ?_
  refine W.widen (k := 20 + (j + 1)) (n := 248 + 6 * (j + 1)) (by omega) (by omega) ?_
  exact K0 fo g21 d21 F21 mg23 md23 mF23 H locs ls (LI_cp hLI hw21.2) hw23.2.1 trivial (hP.sub [1, 2, 3, 4, 5, 6, 7, 8, 9, 10, 11, 12, 13, 14, 15, 16, 17, 18, 19, 0] rfl) (hD.sub [1, 2, 3, 4, 5, 6, 7, 8, 9, 10, 11, 12, 13, 14, 15, 16, 17, 18, 19, 0] (by decide) rfl) hS (lv_sub hl [0, 1, 2, 3, 4] rfl)
set_option maxHeartbeats 4000000 in
set_option maxRecDepth 100000 in
theorem law_case3 {p : Program} {l : Launch} {e : Env} {s : State} {m : MethodId} {below : List Frame} {meth : Method} {c : Code} {b L : Nat} {xs : Nat → Int32} (hst : l.stackTraces = false) (hL : L ≤ 2560) (C0 : lw_At p s m meth c b L xs) {D : va_G} {cI cL : ClassId} (hKL : KLX D cI cL s) (hZ : ZZ (fun q : Nat => s.heap.size ≤ q) s s.heap) {j : Nat} (hj : 5 * j + 5 ≤ L) {a am : Nat → Nat} {qo : Nat} {fo : Nat → Int64} {g : Nat → Int32} {d : Nat → UInt64} {F : Nat → Nat → Int32} {mg : Nat → Int32} {md : Nat → UInt64} {mF : Nat → Nat → Int32} {H : Heap} {locs : List Loc} {ls : Array Slot} (hLI : LI g d) (hMI : MI mg md mF) (hRR : RR g F mg mF) (hP : va_P D vwCl (cw cI a g d F ++ (mw cI am mg md mF ++ [(qo, .inl (cL, 1, .inr (.inl fo)))])) H) (hD : va_D (fun q : Nat => s.heap.size ≤ q) (cw cI a g d F ++ (mw cI am mg md mF ++ [(qo, .inl (cL, 1, .inr (.inl fo)))]))) (hS : va_S (fun q : Nat => s.heap.size ≤ q) s.heap H locs) (hl : lv_has ls 9 [(4, .int (nI (5 * j))), (3, .ref qo), (2, .ref (am 0)), (1, .ref (a 0)), (0, .ref b)]) (K0 : ∀ (fo : Nat → Int64) (g : Nat → Int32) (d : Nat → UInt64) (F : Nat → Nat → Int32) (mg : Nat → Int32) (md : Nat → UInt64) (mF : Nat → Nat → Int32) (H : Heap) (locs : List Loc) (ls : Array Slot), LI g d → MI mg md mF → RR g F mg mF → va_P D vwCl (cw cI a g d F ++ (mw cI am mg md mF ++ [(qo, .inl (cL, 1, .inr (.inl fo)))])) H → va_D (fun q : Nat => s.heap.size ≤ q) (cw cI a g d F ++ (mw cI am mg md mF ++ [(qo, .inl (cL, 1, .inr (.inl fo)))])) → va_S (fun q : Nat => s.heap.size ≤ q) s.heap H locs → lv_has ls 9 [(4, .int (nI (5 * j))), (3, .ref qo), (2, .ref (am 0)), (1, .ref (a 0)), (0, .ref b)] → W p l e room_1 s m #[Value.ref b] below meth c H locs (20 + (j + 1)) (248 + 6 * (j + 1)) (lw_Z below #[Value.ref b] s) (F0 m 698 ls [])) : W p l e room_1 s m #[Value.ref b] below meth c H locs (20 + j) (248 + 6 * j) (lw_Z below #[Value.ref b] s) (F0 m 275 ls []) := by
  obtain ⟨hx, hb, hr, hml, hown, hts, hX, hbl, hlocks, hgv⟩ := C0
  have hts := fun w h => hts w (wsL_law_in w h)
  have hK := hKL.1
  have hA : ∀ q : Nat, s.heap.size ≤ q → (fun q : Nat => s.heap.size ≤ q) q := fun _ h => h
  have hbA : ¬ (fun q : Nat => s.heap.size ≤ q) b := Nat.not_le.mpr hbl
  refine lv_aload_n hx hb dL_law_275 rfl (lv_at hl 3 rfl) ?_
  refine lv_aload_n hx hb dL_law_276 rfl (lv_at hl 4 rfl) ?_
  refine lv_iload hx hb dL_law_277 (lv_at hl 0 rfl) ?_
  refine lv_iconst (v := 1) hx hb dL_law_279 (by decide) ?_
  refine lv_iadd hx hb dL_law_280 ?_
  refine lv_topi (fun x24 e24 => ?_)
  obtain rfl : x24 = nI (5 * j + 1) := e24.trans sx
  refine va_sld hx hb hX hbl hbA hS (sx_in (k := 1) hj hL (by decide)) dL_law_281 ?_
  refine gc_vi (mc := 0) (ms := 0) (As := [.int ((xs (nI (5 * j + 1)).toNatClampNeg))]) (rest := []) (w0 := cw cI a g d F ++ (mw cI am mg md mF ++ ([(qo, .inl (cL, 1, .inr (.inl fo)))]))) (wc := cw cI a g d F) (wr := mw cI am mg md mF ++ ([(qo, .inl (cL, 1, .inr (.inl fo)))])) (wf := wfC cI a) ⟨hx, hb, hml, hown, hts⟩ (KLX_C hKL) (KC_ok D cI) hP hD hS hA [0, 1, 2, 3, 4, 5, 6, 7, 8, 9, 10, 11] [12, 13, 14, 15, 16, 17, 18, 19] rfl rfl (by decide) (s_X6_use l D cI a _ g d F ((xs (nI (5 * j + 1)).toNatClampNeg)) hLI.1) (cwV 1 hts gL_law_X6_use rfl rfl rfl (by decide +kernel) ⟨Nat.le_of_ble_eq_true rfl, Nat.le_of_ble_eq_true rfl⟩) (va_recv hK hP (ci := 6) (q0 := 0) rfl rfl) rfl hl.1 rfl (Nat.le_of_ble_eq_true rfl) dL_law_282 ⟨(show 20 + j + 0 ≤ 660837 from by omega), (show 248 + 6 * j + 0 ≤ 7113592 from by omega)⟩ (fun r25 u25 H locs hw25 hP hD hS => ?_)
  obtain ⟨g25, d25, F25⟩ := u25
  have hP : va_P D vwCl (mw cI am mg md mF ++ ([(qo, .inl (cL, 1, .inr (.inl fo)))] ++ (cw cI a g25 d25 F25))) H := hP
  have hD : va_D (fun q : Nat => s.heap.size ≤ q) (mw cI am mg md mF ++ ([(qo, .inl (cL, 1, .inr (.inl fo)))] ++ (cw cI a g25 d25 F25))) := hD
  refine W.widen (k := 20 + j) (n := 248 + 6 * j) (by omega) (by omega) ?_
  refine lv_pop hx hb dL_law_285 rfl ?_
  refine lv_aload_n hx hb dL_law_286 rfl (lv_at hl 2 rfl) ?_
  refine lv_aload_n hx hb dL_law_287 rfl (lv_at hl 4 rfl) ?_
  refine lv_iload hx hb dL_law_288 (lv_at hl 0 rfl) ?_
  refine lv_iconst (v := 1) hx hb dL_law_290 (by decide) ?_
  refine lv_iadd hx hb dL_law_291 ?_
  refine lv_topi (fun x26 e26 => ?_)
  obtain rfl : x26 = nI (5 * j + 1) := e26.trans sx
  refine va_sld hx hb hX hbl hbA hS (sx_in (k := 1) hj hL (by decide)) dL_law_292 ?_
  refine gc_vi (mc := 0) (ms := 0) (As := [.int ((xs (nI (5 * j + 1)).toNatClampNeg))]) (rest := []) (w0 := mw cI am mg md mF ++ ([(qo, .inl (cL, 1, .inr (.inl fo)))] ++ (cw cI a g25 d25 F25))) (wc := mw cI am mg md mF) (wr := [(qo, .inl (cL, 1, .inr (.inl fo)))] ++ (cw cI a g25 d25 F25)) (wf := wfM cI am) ⟨hx, hb, hml, hown, hts⟩ (KLX_M hKL) (KM_ok D cI) hP hD hS hA [0, 1, 2, 3, 4, 5, 6] [7, 8, 9, 10, 11, 12, 13, 14, 15, 16, 17, 18, 19] rfl rfl (by decide) (s_X7_use l D cI am _ mg md mF ((xs (nI (5 * j + 1)).toNatClampNeg)) hMI) (cwV 1 hts gL_law_X7_use rfl rfl rfl (by decide +kernel) ⟨Nat.le_of_ble_eq_true rfl, Nat.le_of_ble_eq_true rfl⟩) (va_recv hK hP (ci := 7) (q0 := 0) rfl rfl) rfl hl.1 rfl (Nat.le_of_ble_eq_true rfl) dL_law_293 ⟨(show 20 + j + 0 ≤ 660837 from by omega), (show 248 + 6 * j + 0 ≤ 7113592 from by omega)⟩ (fun r27 u27 H locs hw27 hP hD hS => ?_)
  obtain ⟨mg27, md27, mF27⟩ := u27
  have hP : va_P D vwCl ([(qo, .inl (cL, 1, .inr (.inl fo)))] ++ (cw cI a g25 d25 F25 ++ (mw cI am mg27 md27 mF27))) H := hP
  have hD : va_D (fun q : Nat => s.heap.size ≤ q) ([(qo, .inl (cL, 1, .inr (.inl fo)))] ++ (cw cI a g25 d25 F25 ++ (mw cI am mg27 md27 mF27))) := hD
  refine W.widen (k := 20 + j) (n := 248 + 6 * j) (by omega) (by omega) ?_
  refine lv_pop hx hb dL_law_296 rfl ?_
  refine lv_goto (tgt := 698) hx hb dL_law_297 (by decide) ?_
  refine W.widen (k := 20 + (j + 1)) (n := 248 + 6 * (j + 1)) (by omega) (by omega) ?_
  exact K0 fo g25 d25 F25 mg27 md27 mF27 H locs ls ⟨hw25.2.1, by show 0 ≤ (g25 0).toInt; rw [show g25 0 = g 0 from hw25.2.2.1]; exact hLI.2.1, by show (g25 0).toInt ≤ 5; rw [show g25 0 = g 0 from hw25.2.2.1]; exact hLI.2.2⟩ hw27.2.1 trivial (hP.sub [1, 2, 3, 4, 5, 6, 7, 8, 9, 10, 11, 12, 13, 14, 15, 16, 17, 18, 19, 0] rfl) (hD.sub [1, 2, 3, 4, 5, 6, 7, 8, 9, 10, 11, 12, 13, 14, 15, 16, 17, 18, 19, 0] (by decide) rfl) hS (lv_sub hl [0, 1, 2, 3, 4] rfl)
set_option maxHeartbeats 4000000 in
set_option maxRecDepth 100000 in
theorem law_case4 {p : Program} {l : Launch} {e : Env} {s : State} {m : MethodId} {below : List Frame} {meth : Method} {c : Code} {b L : Nat} {xs : Nat → Int32} (hst : l.stackTraces = false) (hL : L ≤ 2560) (C0 : lw_At p s m meth c b L xs) {D : va_G} {cI cL : ClassId} (hKL : KLX D cI cL s) (hZ : ZZ (fun q : Nat => s.heap.size ≤ q) s s.heap) {j : Nat} (hj : 5 * j + 5 ≤ L) {a am : Nat → Nat} {qo : Nat} {fo : Nat → Int64} {g : Nat → Int32} {d : Nat → UInt64} {F : Nat → Nat → Int32} {mg : Nat → Int32} {md : Nat → UInt64} {mF : Nat → Nat → Int32} {H : Heap} {locs : List Loc} {ls : Array Slot} (hLI : LI g d) (hMI : MI mg md mF) (hRR : RR g F mg mF) (hP : va_P D vwCl (cw cI a g d F ++ (mw cI am mg md mF ++ [(qo, .inl (cL, 1, .inr (.inl fo)))])) H) (hD : va_D (fun q : Nat => s.heap.size ≤ q) (cw cI a g d F ++ (mw cI am mg md mF ++ [(qo, .inl (cL, 1, .inr (.inl fo)))]))) (hS : va_S (fun q : Nat => s.heap.size ≤ q) s.heap H locs) (hl : lv_has ls 9 [(4, .int (nI (5 * j))), (3, .ref qo), (2, .ref (am 0)), (1, .ref (a 0)), (0, .ref b)]) (K0 : ∀ (fo : Nat → Int64) (g : Nat → Int32) (d : Nat → UInt64) (F : Nat → Nat → Int32) (mg : Nat → Int32) (md : Nat → UInt64) (mF : Nat → Nat → Int32) (H : Heap) (locs : List Loc) (ls : Array Slot), LI g d → MI mg md mF → RR g F mg mF → va_P D vwCl (cw cI a g d F ++ (mw cI am mg md mF ++ [(qo, .inl (cL, 1, .inr (.inl fo)))])) H → va_D (fun q : Nat => s.heap.size ≤ q) (cw cI a g d F ++ (mw cI am mg md mF ++ [(qo, .inl (cL, 1, .inr (.inl fo)))])) → va_S (fun q : Nat => s.heap.size ≤ q) s.heap H locs → lv_has ls 9 [(4, .int (nI (5 * j))), (3, .ref qo), (2, .ref (am 0)), (1, .ref (a 0)), (0, .ref b)] → W p l e room_1 s m #[Value.ref b] below meth c H locs (20 + (j + 1)) (248 + 6 * (j + 1)) (lw_Z below #[Value.ref b] s) (F0 m 698 ls [])) : W p l e room_1 s m #[Value.ref b] below meth c H locs (20 + j) (248 + 6 * j) (lw_Z below #[Value.ref b] s) (F0 m 300 ls []) := by
  obtain ⟨hx, hb, hr, hml, hown, hts, hX, hbl, hlocks, hgv⟩ := C0
  have hts := fun w h => hts w (wsL_law_in w h)
  have hK := hKL.1
  have hA : ∀ q : Nat, s.heap.size ≤ q → (fun q : Nat => s.heap.size ≤ q) q := fun _ h => h
  have hbA : ¬ (fun q : Nat => s.heap.size ≤ q) b := Nat.not_le.mpr hbl
  refine lv_aload_n hx hb dL_law_300 rfl (lv_at hl 3 rfl) ?_
  refine lv_aload_n hx hb dL_law_301 rfl (lv_at hl 4 rfl) ?_
  refine lv_iload hx hb dL_law_302 (lv_at hl 0 rfl) ?_
  refine lv_iconst (v := 1) hx hb dL_law_304 (by decide) ?_
  refine lv_iadd hx hb dL_law_305 ?_
  refine lv_topi (fun x28 e28 => ?_)
  obtain rfl : x28 = nI (5 * j + 1) := e28.trans sx
  refine va_sld hx hb hX hbl hbA hS (sx_in (k := 1) hj hL (by decide)) dL_law_306 ?_
  refine lv_aload_n hx hb dL_law_307 rfl (lv_at hl 4 rfl) ?_
  refine lv_iload hx hb dL_law_308 (lv_at hl 0 rfl) ?_
  refine lv_iconst (v := 2) hx hb dL_law_310 (by decide) ?_
  refine lv_iadd hx hb dL_law_311 ?_
  refine lv_topi (fun x29 e29 => ?_)
  obtain rfl : x29 = nI (5 * j + 2) := e29.trans sx
  refine va_sld hx hb hX hbl hbA hS (sx_in (k := 2) hj hL (by decide)) dL_law_312 ?_
  refine lv_aload_n hx hb dL_law_313 rfl (lv_at hl 4 rfl) ?_
  refine lv_iload hx hb dL_law_314 (lv_at hl 0 rfl) ?_
  refine lv_iconst (v := 3) hx hb dL_law_316 (by decide) ?_
  refine lv_iadd hx hb dL_law_317 ?_
  refine lv_topi (fun x30 e30 => ?_)
  obtain rfl : x30 = nI (5 * j + 3) := e30.trans sx
  refine va_sld hx hb hX hbl hbA hS (sx_in (k := 3) hj hL (by decide)) dL_law_318 ?_
  refine gc_vi (mc := 0) (ms := 0) (As := [.int ((xs (nI (5 * j + 1)).toNatClampNeg)), .int ((xs (nI (5 * j + 2)).toNatClampNeg)), .int ((xs (nI (5 * j + 3)).toNatClampNeg))]) (rest := []) (w0 := cw cI a g d F ++ (mw cI am mg md mF ++ ([(qo, .inl (cL, 1, .inr (.inl fo)))]))) (wc := cw cI a g d F) (wr := mw cI am mg md mF ++ ([(qo, .inl (cL, 1, .inr (.inl fo)))])) (wf := wfC cI a) ⟨hx, hb, hml, hown, hts⟩ (KLX_C hKL) (KC_ok D cI) hP hD hS hA [0, 1, 2, 3, 4, 5, 6, 7, 8, 9, 10, 11] [12, 13, 14, 15, 16, 17, 18, 19] rfl rfl (by decide) (s_X6_limiter l D cI a _ g d F ((xs (nI (5 * j + 1)).toNatClampNeg)) ((xs (nI (5 * j + 2)).toNatClampNeg)) ((xs (nI (5 * j + 3)).toNatClampNeg)) hLI.1) (cwV 3 hts gL_law_X6_limiter rfl rfl rfl (by decide +kernel) ⟨Nat.le_of_ble_eq_true rfl, Nat.le_of_ble_eq_true rfl⟩) (va_recv hK hP (ci := 6) (q0 := 0) rfl rfl) rfl hl.1 rfl (Nat.le_of_ble_eq_true rfl) dL_law_319 ⟨(show 20 + j + 0 ≤ 660837 from by omega), (show 248 + 6 * j + 0 ≤ 7113592 from by omega)⟩ (fun r31 u31 H locs hw31 hP hD hS => ?_)
  obtain ⟨g31, d31, F31⟩ := u31
  have hP : va_P D vwCl (mw cI am mg md mF ++ ([(qo, .inl (cL, 1, .inr (.inl fo)))] ++ (cw cI a g31 d31 F31))) H := hP
  have hD : va_D (fun q : Nat => s.heap.size ≤ q) (mw cI am mg md mF ++ ([(qo, .inl (cL, 1, .inr (.inl fo)))] ++ (cw cI a g31 d31 F31))) := hD
  refine W.widen (k := 20 + j) (n := 248 + 6 * j) (by omega) (by omega) ?_
  refine lv_pop hx hb dL_law_322 rfl ?_
  refine lv_aload_n hx hb dL_law_323 rfl (lv_at hl 2 rfl) ?_
  refine lv_aload_n hx hb dL_law_324 rfl (lv_at hl 4 rfl) ?_
  refine lv_iload hx hb dL_law_325 (lv_at hl 0 rfl) ?_
  refine lv_iconst (v := 1) hx hb dL_law_327 (by decide) ?_
  refine lv_iadd hx hb dL_law_328 ?_
  refine lv_topi (fun x32 e32 => ?_)
  obtain rfl : x32 = nI (5 * j + 1) := e32.trans sx
  refine va_sld hx hb hX hbl hbA hS (sx_in (k := 1) hj hL (by decide)) dL_law_329 ?_
  refine lv_aload_n hx hb dL_law_330 rfl (lv_at hl 4 rfl) ?_
  refine lv_iload hx hb dL_law_331 (lv_at hl 0 rfl) ?_
  refine lv_iconst (v := 2) hx hb dL_law_333 (by decide) ?_
  refine lv_iadd hx hb dL_law_334 ?_
  refine lv_topi (fun x33 e33 => ?_)
  obtain rfl : x33 = nI (5 * j + 2) := e33.trans sx
  refine va_sld hx hb hX hbl hbA hS (sx_in (k := 2) hj hL (by decide)) dL_law_335 ?_
  refine lv_aload_n hx hb dL_law_336 rfl (lv_at hl 4 rfl) ?_
  refine lv_iload hx hb dL_law_337 (lv_at hl 0 rfl) ?_
  refine lv_iconst (v := 3) hx hb dL_law_339 (by decide) ?_
  refine lv_iadd hx hb dL_law_340 ?_
  refine lv_topi (fun x34 e34 => ?_)
  obtain rfl : x34 = nI (5 * j + 3) := e34.trans sx
  refine va_sld hx hb hX hbl hbA hS (sx_in (k := 3) hj hL (by decide)) dL_law_341 ?_
  refine gc_vi (mc := 0) (ms := 0) (As := [.int ((xs (nI (5 * j + 1)).toNatClampNeg)), .int ((xs (nI (5 * j + 2)).toNatClampNeg)), .int ((xs (nI (5 * j + 3)).toNatClampNeg))]) (rest := []) (w0 := mw cI am mg md mF ++ ([(qo, .inl (cL, 1, .inr (.inl fo)))] ++ (cw cI a g31 d31 F31))) (wc := mw cI am mg md mF) (wr := [(qo, .inl (cL, 1, .inr (.inl fo)))] ++ (cw cI a g31 d31 F31)) (wf := wfM cI am) ⟨hx, hb, hml, hown, hts⟩ (KLX_M hKL) (KM_ok D cI) hP hD hS hA [0, 1, 2, 3, 4, 5, 6] [7, 8, 9, 10, 11, 12, 13, 14, 15, 16, 17, 18, 19] rfl rfl (by decide) (s_X7_limiter l D cI am _ mg md mF ((xs (nI (5 * j + 1)).toNatClampNeg)) ((xs (nI (5 * j + 2)).toNatClampNeg)) ((xs (nI (5 * j + 3)).toNatClampNeg)) hMI) (cwV 3 hts gL_law_X7_limiter rfl rfl rfl (by decide +kernel) ⟨Nat.le_of_ble_eq_true rfl, Nat.le_of_ble_eq_true rfl⟩) (va_recv hK hP (ci := 7) (q0 := 0) rfl rfl) rfl hl.1 rfl (Nat.le_of_ble_eq_true rfl) dL_law_342 ⟨(show 20 + j + 0 ≤ 660837 from by omega), (show 248 + 6 * j + 0 ≤ 7113592 from by omega)⟩ (fun r35 u35 H locs hw35 hP hD hS => ?_)
  obtain ⟨mg35, md35, mF35⟩ := u35
  have hP : va_P D vwCl ([(qo, .inl (cL, 1, .inr (.inl fo)))] ++ (cw cI a g31 d31 F31 ++ (mw cI am mg35 md35 mF35))) H := hP
  have hD : va_D (fun q : Nat => s.heap.size ≤ q) ([(qo, .inl (cL, 1, .inr (.inl fo)))] ++ (cw cI a g31 d31 F31 ++ (mw cI am mg35 md35 mF35))) := hD
  refine W.widen (k := 20 + j) (n := 248 + 6 * j) (by omega) (by omega) ?_
  refine lv_pop hx hb dL_law_345 rfl ?_
  refine lv_goto (tgt := 698) hx hb dL_law_346 (by decide) ?_
  refine W.widen (k := 20 + (j + 1)) (n := 248 + 6 * (j + 1)) (by omega) (by omega) ?_
  exact K0 fo g31 d31 F31 mg35 md35 mF35 H locs ls (LI_cp hLI hw31.2) hw35.2.1 trivial (hP.sub [1, 2, 3, 4, 5, 6, 7, 8, 9, 10, 11, 12, 13, 14, 15, 16, 17, 18, 19, 0] rfl) (hD.sub [1, 2, 3, 4, 5, 6, 7, 8, 9, 10, 11, 12, 13, 14, 15, 16, 17, 18, 19, 0] (by decide) rfl) hS (lv_sub hl [0, 1, 2, 3, 4] rfl)
set_option maxHeartbeats 4000000 in
set_option maxRecDepth 100000 in
theorem law_case5 {p : Program} {l : Launch} {e : Env} {s : State} {m : MethodId} {below : List Frame} {meth : Method} {c : Code} {b L : Nat} {xs : Nat → Int32} (hst : l.stackTraces = false) (hL : L ≤ 2560) (C0 : lw_At p s m meth c b L xs) {D : va_G} {cI cL : ClassId} (hKL : KLX D cI cL s) (hZ : ZZ (fun q : Nat => s.heap.size ≤ q) s s.heap) {j : Nat} (hj : 5 * j + 5 ≤ L) {a am : Nat → Nat} {qo : Nat} {fo : Nat → Int64} {g : Nat → Int32} {d : Nat → UInt64} {F : Nat → Nat → Int32} {mg : Nat → Int32} {md : Nat → UInt64} {mF : Nat → Nat → Int32} {H : Heap} {locs : List Loc} {ls : Array Slot} (hLI : LI g d) (hMI : MI mg md mF) (hRR : RR g F mg mF) (hP : va_P D vwCl (cw cI a g d F ++ (mw cI am mg md mF ++ [(qo, .inl (cL, 1, .inr (.inl fo)))])) H) (hD : va_D (fun q : Nat => s.heap.size ≤ q) (cw cI a g d F ++ (mw cI am mg md mF ++ [(qo, .inl (cL, 1, .inr (.inl fo)))]))) (hS : va_S (fun q : Nat => s.heap.size ≤ q) s.heap H locs) (hl : lv_has ls 9 [(4, .int (nI (5 * j))), (3, .ref qo), (2, .ref (am 0)), (1, .ref (a 0)), (0, .ref b)]) (K0 : ∀ (fo : Nat → Int64) (g : Nat → Int32) (d : Nat → UInt64) (F : Nat → Nat → Int32) (mg : Nat → Int32) (md : Nat → UInt64) (mF : Nat → Nat → Int32) (H : Heap) (locs : List Loc) (ls : Array Slot), LI g d → MI mg md mF → RR g F mg mF → va_P D vwCl (cw cI a g d F ++ (mw cI am mg md mF ++ [(qo, .inl (cL, 1, .inr (.inl fo)))])) H → va_D (fun q : Nat => s.heap.size ≤ q) (cw cI a g d F ++ (mw cI am mg md mF ++ [(qo, .inl (cL, 1, .inr (.inl fo)))])) → va_S (fun q : Nat => s.heap.size ≤ q) s.heap H locs → lv_has ls 9 [(4, .int (nI (5 * j))), (3, .ref qo), (2, .ref (am 0)), (1, .ref (a 0)), (0, .ref b)] → W p l e room_1 s m #[Value.ref b] below meth c H locs (20 + (j + 1)) (248 + 6 * (j + 1)) (lw_Z below #[Value.ref b] s) (F0 m 698 ls [])) : W p l e room_1 s m #[Value.ref b] below meth c H locs (20 + j) (248 + 6 * j) (lw_Z below #[Value.ref b] s) (F0 m 349 ls []) := by
  obtain ⟨hx, hb, hr, hml, hown, hts, hX, hbl, hlocks, hgv⟩ := C0
  have hts := fun w h => hts w (wsL_law_in w h)
  have hK := hKL.1
  have hA : ∀ q : Nat, s.heap.size ≤ q → (fun q : Nat => s.heap.size ≤ q) q := fun _ h => h
  have hbA : ¬ (fun q : Nat => s.heap.size ≤ q) b := Nat.not_le.mpr hbl
  refine lv_aload_n hx hb dL_law_349 rfl (lv_at hl 3 rfl) ?_
  refine lv_aload_n hx hb dL_law_350 rfl (lv_at hl 4 rfl) ?_
  refine lv_iload hx hb dL_law_351 (lv_at hl 0 rfl) ?_
  refine lv_iconst (v := 1) hx hb dL_law_353 (by decide) ?_
  refine lv_iadd hx hb dL_law_354 ?_
  refine lv_topi (fun x36 e36 => ?_)
  obtain rfl : x36 = nI (5 * j + 1) := e36.trans sx
  refine va_sld hx hb hX hbl hbA hS (sx_in (k := 1) hj hL (by decide)) dL_law_355 ?_
  refine lv_aload_n hx hb dL_law_356 rfl (lv_at hl 4 rfl) ?_
  refine lv_iload hx hb dL_law_357 (lv_at hl 0 rfl) ?_
  refine lv_iconst (v := 2) hx hb dL_law_359 (by decide) ?_
  refine lv_iadd hx hb dL_law_360 ?_
  refine lv_topi (fun x37 e37 => ?_)
  obtain rfl : x37 = nI (5 * j + 2) := e37.trans sx
  refine va_sld hx hb hX hbl hbA hS (sx_in (k := 2) hj hL (by decide)) dL_law_361 ?_
  refine gc_vi (mc := 0) (ms := 0) (As := [.int ((xs (nI (5 * j + 1)).toNatClampNeg)), .int ((xs (nI (5 * j + 2)).toNatClampNeg))]) (rest := []) (w0 := cw cI a g d F ++ (mw cI am mg md mF ++ ([(qo, .inl (cL, 1, .inr (.inl fo)))]))) (wc := cw cI a g d F) (wr := mw cI am mg md mF ++ ([(qo, .inl (cL, 1, .inr (.inl fo)))])) (wf := wfC cI a) ⟨hx, hb, hml, hown, hts⟩ (KLX_C hKL) (KC_ok D cI) hP hD hS hA [0, 1, 2, 3, 4, 5, 6, 7, 8, 9, 10, 11] [12, 13, 14, 15, 16, 17, 18, 19] rfl rfl (by decide) (s_X6_retry l D cI a _ g d F ((xs (nI (5 * j + 1)).toNatClampNeg)) ((xs (nI (5 * j + 2)).toNatClampNeg)) hLI.1) (cwV 2 hts gL_law_X6_retry rfl rfl rfl (by decide +kernel) ⟨Nat.le_of_ble_eq_true rfl, Nat.le_of_ble_eq_true rfl⟩) (va_recv hK hP (ci := 6) (q0 := 0) rfl rfl) rfl hl.1 rfl (Nat.le_of_ble_eq_true rfl) dL_law_362 ⟨(show 20 + j + 0 ≤ 660837 from by omega), (show 248 + 6 * j + 0 ≤ 7113592 from by omega)⟩ (fun r38 u38 H locs hw38 hP hD hS => ?_)
  obtain ⟨g38, d38, F38⟩ := u38
  have hP : va_P D vwCl (mw cI am mg md mF ++ ([(qo, .inl (cL, 1, .inr (.inl fo)))] ++ (cw cI a g38 d38 F38))) H := hP
  have hD : va_D (fun q : Nat => s.heap.size ≤ q) (mw cI am mg md mF ++ ([(qo, .inl (cL, 1, .inr (.inl fo)))] ++ (cw cI a g38 d38 F38))) := hD
  refine W.widen (k := 20 + j) (n := 248 + 6 * j) (by omega) (by omega) ?_
  refine lv_pop hx hb dL_law_365 rfl ?_
  refine lv_aload_n hx hb dL_law_366 rfl (lv_at hl 2 rfl) ?_
  refine lv_aload_n hx hb dL_law_367 rfl (lv_at hl 4 rfl) ?_
  refine lv_iload hx hb dL_law_368 (lv_at hl 0 rfl) ?_
  refine lv_iconst (v := 1) hx hb dL_law_370 (by decide) ?_
  refine lv_iadd hx hb dL_law_371 ?_
  refine lv_topi (fun x39 e39 => ?_)
  obtain rfl : x39 = nI (5 * j + 1) := e39.trans sx
  refine va_sld hx hb hX hbl hbA hS (sx_in (k := 1) hj hL (by decide)) dL_law_372 ?_
  refine lv_aload_n hx hb dL_law_373 rfl (lv_at hl 4 rfl) ?_
  refine lv_iload hx hb dL_law_374 (lv_at hl 0 rfl) ?_
  refine lv_iconst (v := 2) hx hb dL_law_376 (by decide) ?_
  refine lv_iadd hx hb dL_law_377 ?_
  refine lv_topi (fun x40 e40 => ?_)
  obtain rfl : x40 = nI (5 * j + 2) := e40.trans sx
  refine va_sld hx hb hX hbl hbA hS (sx_in (k := 2) hj hL (by decide)) dL_law_378 ?_
  refine gc_vi (mc := 0) (ms := 0) (As := [.int ((xs (nI (5 * j + 1)).toNatClampNeg)), .int ((xs (nI (5 * j + 2)).toNatClampNeg))]) (rest := []) (w0 := mw cI am mg md mF ++ ([(qo, .inl (cL, 1, .inr (.inl fo)))] ++ (cw cI a g38 d38 F38))) (wc := mw cI am mg md mF) (wr := [(qo, .inl (cL, 1, .inr (.inl fo)))] ++ (cw cI a g38 d38 F38)) (wf := wfM cI am) ⟨hx, hb, hml, hown, hts⟩ (KLX_M hKL) (KM_ok D cI) hP hD hS hA [0, 1, 2, 3, 4, 5, 6] [7, 8, 9, 10, 11, 12, 13, 14, 15, 16, 17, 18, 19] rfl rfl (by decide) (s_X7_retry l D cI am _ mg md mF ((xs (nI (5 * j + 1)).toNatClampNeg)) ((xs (nI (5 * j + 2)).toNatClampNeg)) hMI) (cwV 2 hts gL_law_X7_retry rfl rfl rfl (by decide +kernel) ⟨Nat.le_of_ble_eq_true rfl, Nat.le_of_ble_eq_true rfl⟩) (va_recv hK hP (ci := 7) (q0 := 0) rfl rfl) rfl hl.1 rfl (Nat.le_of_ble_eq_true rfl) dL_law_379 ⟨(show 20 + j + 0 ≤ 660837 from by omega), (show 248 + 6 * j + 0 ≤ 7113592 from by omega)⟩ (fun r41 u41 H locs hw41 hP hD hS => ?_)
  obtain ⟨mg41, md41, mF41⟩ := u41
  have hP : va_P D vwCl ([(qo, .inl (cL, 1, .inr (.inl fo)))] ++ (cw cI a g38 d38 F38 ++ (mw cI am mg41 md41 mF41))) H := hP
  have hD : va_D (fun q : Nat => s.heap.size ≤ q) ([(qo, .inl (cL, 1, .inr (.inl fo)))] ++ (cw cI a g38 d38 F38 ++ (mw cI am mg41 md41 mF41))) := hD
  refine W.widen (k := 20 + j) (n := 248 + 6 * j) (by omega) (by omega) ?_
  refine lv_pop hx hb dL_law_382 rfl ?_
  refine lv_goto (tgt := 698) hx hb dL_law_383 (by decide) ?_
  refine W.widen (k := 20 + (j + 1)) (n := 248 + 6 * (j + 1)) (by omega) (by omega) ?_
  exact K0 fo g38 d38 F38 mg41 md41 mF41 H locs ls (LI_cp hLI hw38.2) hw41.2.1 trivial (hP.sub [1, 2, 3, 4, 5, 6, 7, 8, 9, 10, 11, 12, 13, 14, 15, 16, 17, 18, 19, 0] rfl) (hD.sub [1, 2, 3, 4, 5, 6, 7, 8, 9, 10, 11, 12, 13, 14, 15, 16, 17, 18, 19, 0] (by decide) rfl) hS (lv_sub hl [0, 1, 2, 3, 4] rfl)
set_option maxHeartbeats 4000000 in
set_option maxRecDepth 100000 in
theorem law_case6 {p : Program} {l : Launch} {e : Env} {s : State} {m : MethodId} {below : List Frame} {meth : Method} {c : Code} {b L : Nat} {xs : Nat → Int32} (hst : l.stackTraces = false) (hL : L ≤ 2560) (C0 : lw_At p s m meth c b L xs) {D : va_G} {cI cL : ClassId} (hKL : KLX D cI cL s) (hZ : ZZ (fun q : Nat => s.heap.size ≤ q) s s.heap) {j : Nat} (hj : 5 * j + 5 ≤ L) {a am : Nat → Nat} {qo : Nat} {fo : Nat → Int64} {g : Nat → Int32} {d : Nat → UInt64} {F : Nat → Nat → Int32} {mg : Nat → Int32} {md : Nat → UInt64} {mF : Nat → Nat → Int32} {H : Heap} {locs : List Loc} {ls : Array Slot} (hLI : LI g d) (hMI : MI mg md mF) (hRR : RR g F mg mF) (hP : va_P D vwCl (cw cI a g d F ++ (mw cI am mg md mF ++ [(qo, .inl (cL, 1, .inr (.inl fo)))])) H) (hD : va_D (fun q : Nat => s.heap.size ≤ q) (cw cI a g d F ++ (mw cI am mg md mF ++ [(qo, .inl (cL, 1, .inr (.inl fo)))]))) (hS : va_S (fun q : Nat => s.heap.size ≤ q) s.heap H locs) (hl : lv_has ls 9 [(4, .int (nI (5 * j))), (3, .ref qo), (2, .ref (am 0)), (1, .ref (a 0)), (0, .ref b)]) (K0 : ∀ (fo : Nat → Int64) (g : Nat → Int32) (d : Nat → UInt64) (F : Nat → Nat → Int32) (mg : Nat → Int32) (md : Nat → UInt64) (mF : Nat → Nat → Int32) (H : Heap) (locs : List Loc) (ls : Array Slot), LI g d → MI mg md mF → RR g F mg mF → va_P D vwCl (cw cI a g d F ++ (mw cI am mg md mF ++ [(qo, .inl (cL, 1, .inr (.inl fo)))])) H → va_D (fun q : Nat => s.heap.size ≤ q) (cw cI a g d F ++ (mw cI am mg md mF ++ [(qo, .inl (cL, 1, .inr (.inl fo)))])) → va_S (fun q : Nat => s.heap.size ≤ q) s.heap H locs → lv_has ls 9 [(4, .int (nI (5 * j))), (3, .ref qo), (2, .ref (am 0)), (1, .ref (a 0)), (0, .ref b)] → W p l e room_1 s m #[Value.ref b] below meth c H locs (20 + (j + 1)) (248 + 6 * (j + 1)) (lw_Z below #[Value.ref b] s) (F0 m 698 ls [])) : W p l e room_1 s m #[Value.ref b] below meth c H locs (20 + j) (248 + 6 * j) (lw_Z below #[Value.ref b] s) (F0 m 386 ls []) := by
  obtain ⟨hx, hb, hr, hml, hown, hts, hX, hbl, hlocks, hgv⟩ := C0
  have hts := fun w h => hts w (wsL_law_in w h)
  have hK := hKL.1
  have hA : ∀ q : Nat, s.heap.size ≤ q → (fun q : Nat => s.heap.size ≤ q) q := fun _ h => h
  have hbA : ¬ (fun q : Nat => s.heap.size ≤ q) b := Nat.not_le.mpr hbl
  refine lv_aload_n hx hb dL_law_386 rfl (lv_at hl 3 rfl) ?_
  refine lv_aload_n hx hb dL_law_387 rfl (lv_at hl 4 rfl) ?_
  refine lv_iload hx hb dL_law_388 (lv_at hl 0 rfl) ?_
  refine lv_iconst (v := 1) hx hb dL_law_390 (by decide) ?_
  refine lv_iadd hx hb dL_law_391 ?_
  refine lv_topi (fun x42 e42 => ?_)
  obtain rfl : x42 = nI (5 * j + 1) := e42.trans sx
  refine va_sld hx hb hX hbl hbA hS (sx_in (k := 1) hj hL (by decide)) dL_law_392 ?_
  refine lv_i2d hx hb dL_law_393 ?_
  refine lv_ldc2d (v := 4593671619917905920) hx hb hown (hts (.constantDouble RL 34 (4593671619917905920)) (by decide +kernel)) dL_law_394 ?_
  refine lv_dmul hx hb dL_law_397 (n64_eighth _) ?_
  refine lv_aload_n hx hb dL_law_398 rfl (lv_at hl 4 rfl) ?_
  refine lv_iload hx hb dL_law_399 (lv_at hl 0 rfl) ?_
  refine lv_iconst (v := 2) hx hb dL_law_401 (by decide) ?_
  refine lv_iadd hx hb dL_law_402 ?_
  refine lv_topi (fun x43 e43 => ?_)
  obtain rfl : x43 = nI (5 * j + 2) := e43.trans sx
  refine va_sld hx hb hX hbl hbA hS (sx_in (k := 2) hj hL (by decide)) dL_law_403 ?_
  refine lv_i2d hx hb dL_law_404 ?_
  refine lv_ldc2d (v := 4593671619917905920) hx hb hown (hts (.constantDouble RL 34 (4593671619917905920)) (by decide +kernel)) dL_law_405 ?_
  refine lv_dmul hx hb dL_law_408 (n64_eighth _) ?_
  refine lv_aload_n hx hb dL_law_409 rfl (lv_at hl 4 rfl) ?_
  refine lv_iload hx hb dL_law_410 (lv_at hl 0 rfl) ?_
  refine lv_iconst (v := 3) hx hb dL_law_412 (by decide) ?_
  refine lv_iadd hx hb dL_law_413 ?_
  refine lv_topi (fun x44 e44 => ?_)
  obtain rfl : x44 = nI (5 * j + 3) := e44.trans sx
  refine va_sld hx hb hX hbl hbA hS (sx_in (k := 3) hj hL (by decide)) dL_law_414 ?_
  refine lv_i2d hx hb dL_law_415 ?_
  refine lv_ldc2d (v := 4593671619917905920) hx hb hown (hts (.constantDouble RL 34 (4593671619917905920)) (by decide +kernel)) dL_law_416 ?_
  refine lv_dmul hx hb dL_law_419 (n64_eighth _) ?_
  refine gc_vi (mc := 0) (ms := 0) (As := [.double ((FP.dmul (FP.i2d (xs (nI (5 * j + 1)).toNatClampNeg)) 4593671619917905920)), .double ((FP.dmul (FP.i2d (xs (nI (5 * j + 2)).toNatClampNeg)) 4593671619917905920)), .double ((FP.dmul (FP.i2d (xs (nI (5 * j + 3)).toNatClampNeg)) 4593671619917905920))]) (rest := []) (w0 := cw cI a g d F ++ (mw cI am mg md mF ++ ([(qo, .inl (cL, 1, .inr (.inl fo)))]))) (wc := cw cI a g d F) (wr := mw cI am mg md mF ++ ([(qo, .inl (cL, 1, .inr (.inl fo)))])) (wf := wfC cI a) ⟨hx, hb, hml, hown, hts⟩ (KLX_C hKL) (KC_ok D cI) hP hD hS hA [0, 1, 2, 3, 4, 5, 6, 7, 8, 9, 10, 11] [12, 13, 14, 15, 16, 17, 18, 19] rfl rfl (by decide) (s_X6_backoff l D cI a _ g d F ((FP.dmul (FP.i2d (xs (nI (5 * j + 1)).toNatClampNeg)) 4593671619917905920)) ((FP.dmul (FP.i2d (xs (nI (5 * j + 2)).toNatClampNeg)) 4593671619917905920)) ((FP.dmul (FP.i2d (xs (nI (5 * j + 3)).toNatClampNeg)) 4593671619917905920)) hLI.1) (cwV 3 hts gL_law_X6_backoff rfl rfl rfl (by decide +kernel) ⟨Nat.le_of_ble_eq_true rfl, Nat.le_of_ble_eq_true rfl⟩) (va_recv hK hP (ci := 6) (q0 := 0) rfl rfl) rfl hl.1 rfl (Nat.le_of_ble_eq_true rfl) dL_law_420 ⟨(show 20 + j + 0 ≤ 660837 from by omega), (show 248 + 6 * j + 0 ≤ 7113592 from by omega)⟩ (fun r45 u45 H locs hw45 hP hD hS => ?_)
  obtain ⟨g45, d45, F45⟩ := u45
  have hP : va_P D vwCl (mw cI am mg md mF ++ ([(qo, .inl (cL, 1, .inr (.inl fo)))] ++ (cw cI a g45 d45 F45))) H := hP
  have hD : va_D (fun q : Nat => s.heap.size ≤ q) (mw cI am mg md mF ++ ([(qo, .inl (cL, 1, .inr (.inl fo)))] ++ (cw cI a g45 d45 F45))) := hD
  refine W.widen (k := 20 + j) (n := 248 + 6 * j) (by omega) (by omega) ?_
  refine lv_pop hx hb dL_law_423 rfl ?_
  refine lv_aload_n hx hb dL_law_424 rfl (lv_at hl 2 rfl) ?_
  refine lv_aload_n hx hb dL_law_425 rfl (lv_at hl 4 rfl) ?_
  refine lv_iload hx hb dL_law_426 (lv_at hl 0 rfl) ?_
  refine lv_iconst (v := 1) hx hb dL_law_428 (by decide) ?_
  refine lv_iadd hx hb dL_law_429 ?_
  refine lv_topi (fun x46 e46 => ?_)
  obtain rfl : x46 = nI (5 * j + 1) := e46.trans sx
  refine va_sld hx hb hX hbl hbA hS (sx_in (k := 1) hj hL (by decide)) dL_law_430 ?_
  refine lv_i2d hx hb dL_law_431 ?_
  refine lv_ldc2d (v := 4593671619917905920) hx hb hown (hts (.constantDouble RL 34 (4593671619917905920)) (by decide +kernel)) dL_law_432 ?_
  refine lv_dmul hx hb dL_law_435 (n64_eighth _) ?_
  refine lv_aload_n hx hb dL_law_436 rfl (lv_at hl 4 rfl) ?_
  refine lv_iload hx hb dL_law_437 (lv_at hl 0 rfl) ?_
  refine lv_iconst (v := 2) hx hb dL_law_439 (by decide) ?_
  refine lv_iadd hx hb dL_law_440 ?_
  refine lv_topi (fun x47 e47 => ?_)
  obtain rfl : x47 = nI (5 * j + 2) := e47.trans sx
  refine va_sld hx hb hX hbl hbA hS (sx_in (k := 2) hj hL (by decide)) dL_law_441 ?_
  refine lv_i2d hx hb dL_law_442 ?_
  refine lv_ldc2d (v := 4593671619917905920) hx hb hown (hts (.constantDouble RL 34 (4593671619917905920)) (by decide +kernel)) dL_law_443 ?_
  refine lv_dmul hx hb dL_law_446 (n64_eighth _) ?_
  refine lv_aload_n hx hb dL_law_447 rfl (lv_at hl 4 rfl) ?_
  refine lv_iload hx hb dL_law_448 (lv_at hl 0 rfl) ?_
  refine lv_iconst (v := 3) hx hb dL_law_450 (by decide) ?_
  refine lv_iadd hx hb dL_law_451 ?_
  refine lv_topi (fun x48 e48 => ?_)
  obtain rfl : x48 = nI (5 * j + 3) := e48.trans sx
  refine va_sld hx hb hX hbl hbA hS (sx_in (k := 3) hj hL (by decide)) dL_law_452 ?_
  refine lv_i2d hx hb dL_law_453 ?_
  refine lv_ldc2d (v := 4593671619917905920) hx hb hown (hts (.constantDouble RL 34 (4593671619917905920)) (by decide +kernel)) dL_law_454 ?_
  refine lv_dmul hx hb dL_law_457 (n64_eighth _) ?_
  refine gc_vi (mc := 0) (ms := 0) (As := [.double ((FP.dmul (FP.i2d (xs (nI (5 * j + 1)).toNatClampNeg)) 4593671619917905920)), .double ((FP.dmul (FP.i2d (xs (nI (5 * j + 2)).toNatClampNeg)) 4593671619917905920)), .double ((FP.dmul (FP.i2d (xs (nI (5 * j + 3)).toNatClampNeg)) 4593671619917905920))]) (rest := []) (w0 := mw cI am mg md mF ++ ([(qo, .inl (cL, 1, .inr (.inl fo)))] ++ (cw cI a g45 d45 F45))) (wc := mw cI am mg md mF) (wr := [(qo, .inl (cL, 1, .inr (.inl fo)))] ++ (cw cI a g45 d45 F45)) (wf := wfM cI am) ⟨hx, hb, hml, hown, hts⟩ (KLX_M hKL) (KM_ok D cI) hP hD hS hA [0, 1, 2, 3, 4, 5, 6] [7, 8, 9, 10, 11, 12, 13, 14, 15, 16, 17, 18, 19] rfl rfl (by decide) (s_X7_backoff l D cI am _ mg md mF ((FP.dmul (FP.i2d (xs (nI (5 * j + 1)).toNatClampNeg)) 4593671619917905920)) ((FP.dmul (FP.i2d (xs (nI (5 * j + 2)).toNatClampNeg)) 4593671619917905920)) ((FP.dmul (FP.i2d (xs (nI (5 * j + 3)).toNatClampNeg)) 4593671619917905920)) hMI) (cwV 3 hts gL_law_X7_backoff rfl rfl rfl (by decide +kernel) ⟨Nat.le_of_ble_eq_true rfl, Nat.le_of_ble_eq_true rfl⟩) (va_recv hK hP (ci := 7) (q0 := 0) rfl rfl) rfl hl.1 rfl (Nat.le_of_ble_eq_true rfl) dL_law_458 ⟨(show 20 + j + 0 ≤ 660837 from by omega), (show 248 + 6 * j + 0 ≤ 7113592 from by omega)⟩ (fun r49 u49 H locs hw49 hP hD hS => ?_)
  obtain ⟨mg49, md49, mF49⟩ := u49
  have hP : va_P D vwCl ([(qo, .inl (cL, 1, .inr (.inl fo)))] ++ (cw cI a g45 d45 F45 ++ (mw cI am mg49 md49 mF49))) H := hP
  have hD : va_D (fun q : Nat => s.heap.size ≤ q) ([(qo, .inl (cL, 1, .inr (.inl fo)))] ++ (cw cI a g45 d45 F45 ++ (mw cI am mg49 md49 mF49))) := hD
  refine W.widen (k := 20 + j) (n := 248 + 6 * j) (by omega) (by omega) ?_
  refine lv_pop hx hb dL_law_461 rfl ?_
  refine lv_goto (tgt := 698) hx hb dL_law_462 (by decide) ?_
  refine W.widen (k := 20 + (j + 1)) (n := 248 + 6 * (j + 1)) (by omega) (by omega) ?_
  exact K0 fo g45 d45 F45 mg49 md49 mF49 H locs ls (LI_cp hLI hw45.2) hw49.2.1 trivial (hP.sub [1, 2, 3, 4, 5, 6, 7, 8, 9, 10, 11, 12, 13, 14, 15, 16, 17, 18, 19, 0] rfl) (hD.sub [1, 2, 3, 4, 5, 6, 7, 8, 9, 10, 11, 12, 13, 14, 15, 16, 17, 18, 19, 0] (by decide) rfl) hS (lv_sub hl [0, 1, 2, 3, 4] rfl)
set_option maxHeartbeats 4000000 in
set_option maxRecDepth 100000 in
theorem law_case7 {p : Program} {l : Launch} {e : Env} {s : State} {m : MethodId} {below : List Frame} {meth : Method} {c : Code} {b L : Nat} {xs : Nat → Int32} (hst : l.stackTraces = false) (hL : L ≤ 2560) (C0 : lw_At p s m meth c b L xs) {D : va_G} {cI cL : ClassId} (hKL : KLX D cI cL s) (hZ : ZZ (fun q : Nat => s.heap.size ≤ q) s s.heap) {j : Nat} (hj : 5 * j + 5 ≤ L) {a am : Nat → Nat} {qo : Nat} {fo : Nat → Int64} {g : Nat → Int32} {d : Nat → UInt64} {F : Nat → Nat → Int32} {mg : Nat → Int32} {md : Nat → UInt64} {mF : Nat → Nat → Int32} {H : Heap} {locs : List Loc} {ls : Array Slot} (hLI : LI g d) (hMI : MI mg md mF) (hRR : RR g F mg mF) (hP : va_P D vwCl (cw cI a g d F ++ (mw cI am mg md mF ++ [(qo, .inl (cL, 1, .inr (.inl fo)))])) H) (hD : va_D (fun q : Nat => s.heap.size ≤ q) (cw cI a g d F ++ (mw cI am mg md mF ++ [(qo, .inl (cL, 1, .inr (.inl fo)))]))) (hS : va_S (fun q : Nat => s.heap.size ≤ q) s.heap H locs) (hl : lv_has ls 9 [(4, .int (nI (5 * j))), (3, .ref qo), (2, .ref (am 0)), (1, .ref (a 0)), (0, .ref b)]) (K0 : ∀ (fo : Nat → Int64) (g : Nat → Int32) (d : Nat → UInt64) (F : Nat → Nat → Int32) (mg : Nat → Int32) (md : Nat → UInt64) (mF : Nat → Nat → Int32) (H : Heap) (locs : List Loc) (ls : Array Slot), LI g d → MI mg md mF → RR g F mg mF → va_P D vwCl (cw cI a g d F ++ (mw cI am mg md mF ++ [(qo, .inl (cL, 1, .inr (.inl fo)))])) H → va_D (fun q : Nat => s.heap.size ≤ q) (cw cI a g d F ++ (mw cI am mg md mF ++ [(qo, .inl (cL, 1, .inr (.inl fo)))])) → va_S (fun q : Nat => s.heap.size ≤ q) s.heap H locs → lv_has ls 9 [(4, .int (nI (5 * j))), (3, .ref qo), (2, .ref (am 0)), (1, .ref (a 0)), (0, .ref b)] → W p l e room_1 s m #[Value.ref b] below meth c H locs (20 + (j + 1)) (248 + 6 * (j + 1)) (lw_Z below #[Value.ref b] s) (F0 m 698 ls [])) : W p l e room_1 s m #[Value.ref b] below meth c H locs (20 + j) (248 + 6 * j) (lw_Z below #[Value.ref b] s) (F0 m 465 ls []) := by
  obtain ⟨hx, hb, hr, hml, hown, hts, hX, hbl, hlocks, hgv⟩ := C0
  have hts := fun w h => hts w (wsL_law_in w h)
  have hK := hKL.1
  have hA : ∀ q : Nat, s.heap.size ≤ q → (fun q : Nat => s.heap.size ≤ q) q := fun _ h => h
  have hbA : ¬ (fun q : Nat => s.heap.size ≤ q) b := Nat.not_le.mpr hbl
  refine lv_aload_n hx hb dL_law_465 rfl (lv_at hl 3 rfl) ?_
  refine lv_aload_n hx hb dL_law_466 rfl (lv_at hl 4 rfl) ?_
  refine lv_iload hx hb dL_law_467 (lv_at hl 0 rfl) ?_
  refine lv_iconst (v := 1) hx hb dL_law_469 (by decide) ?_
  refine lv_iadd hx hb dL_law_470 ?_
  refine lv_topi (fun x50 e50 => ?_)
  obtain rfl : x50 = nI (5 * j + 1) := e50.trans sx
  refine va_sld hx hb hX hbl hbA hS (sx_in (k := 1) hj hL (by decide)) dL_law_471 ?_
  refine gc_vi (mc := 0) (ms := 0) (As := [.int ((xs (nI (5 * j + 1)).toNatClampNeg))]) (rest := []) (w0 := cw cI a g d F ++ (mw cI am mg md mF ++ ([(qo, .inl (cL, 1, .inr (.inl fo)))]))) (wc := cw cI a g d F) (wr := mw cI am mg md mF ++ ([(qo, .inl (cL, 1, .inr (.inl fo)))])) (wf := wfC cI a) ⟨hx, hb, hml, hown, hts⟩ (KLX_C hKL) (KC_ok D cI) hP hD hS hA [0, 1, 2, 3, 4, 5, 6, 7, 8, 9, 10, 11] [12, 13, 14, 15, 16, 17, 18, 19] rfl rfl (by decide) (s_X6_timer l D cI a _ g d F ((xs (nI (5 * j + 1)).toNatClampNeg)) hLI.1) (cwV 1 hts gL_law_X6_timer rfl rfl rfl (by decide +kernel) ⟨Nat.le_of_ble_eq_true rfl, Nat.le_of_ble_eq_true rfl⟩) (va_recv hK hP (ci := 6) (q0 := 0) rfl rfl) rfl hl.1 rfl (Nat.le_of_ble_eq_true rfl) dL_law_472 ⟨(show 20 + j + 0 ≤ 660837 from by omega), (show 248 + 6 * j + 0 ≤ 7113592 from by omega)⟩ (fun r51 u51 H locs hw51 hP hD hS => ?_)
  obtain ⟨g51, d51, F51⟩ := u51
  have hP : va_P D vwCl (mw cI am mg md mF ++ ([(qo, .inl (cL, 1, .inr (.inl fo)))] ++ (cw cI a g51 d51 F51))) H := hP
  have hD : va_D (fun q : Nat => s.heap.size ≤ q) (mw cI am mg md mF ++ ([(qo, .inl (cL, 1, .inr (.inl fo)))] ++ (cw cI a g51 d51 F51))) := hD
  refine W.widen (k := 20 + j) (n := 248 + 6 * j) (by omega) (by omega) ?_
  refine lv_pop hx hb dL_law_475 rfl ?_
  refine lv_aload_n hx hb dL_law_476 rfl (lv_at hl 2 rfl) ?_
  refine lv_aload_n hx hb dL_law_477 rfl (lv_at hl 4 rfl) ?_
  refine lv_iload hx hb dL_law_478 (lv_at hl 0 rfl) ?_
  refine lv_iconst (v := 1) hx hb dL_law_480 (by decide) ?_
  refine lv_iadd hx hb dL_law_481 ?_
  refine lv_topi (fun x52 e52 => ?_)
  obtain rfl : x52 = nI (5 * j + 1) := e52.trans sx
  refine va_sld hx hb hX hbl hbA hS (sx_in (k := 1) hj hL (by decide)) dL_law_482 ?_
  refine gc_vi (mc := 0) (ms := 0) (As := [.int ((xs (nI (5 * j + 1)).toNatClampNeg))]) (rest := []) (w0 := mw cI am mg md mF ++ ([(qo, .inl (cL, 1, .inr (.inl fo)))] ++ (cw cI a g51 d51 F51))) (wc := mw cI am mg md mF) (wr := [(qo, .inl (cL, 1, .inr (.inl fo)))] ++ (cw cI a g51 d51 F51)) (wf := wfM cI am) ⟨hx, hb, hml, hown, hts⟩ (KLX_M hKL) (KM_ok D cI) hP hD hS hA [0, 1, 2, 3, 4, 5, 6] [7, 8, 9, 10, 11, 12, 13, 14, 15, 16, 17, 18, 19] rfl rfl (by decide) (s_X7_timer l D cI am _ mg md mF ((xs (nI (5 * j + 1)).toNatClampNeg)) hMI) (cwV 1 hts gL_law_X7_timer rfl rfl rfl (by decide +kernel) ⟨Nat.le_of_ble_eq_true rfl, Nat.le_of_ble_eq_true rfl⟩) (va_recv hK hP (ci := 7) (q0 := 0) rfl rfl) rfl hl.1 rfl (Nat.le_of_ble_eq_true rfl) dL_law_483 ⟨(show 20 + j + 0 ≤ 660837 from by omega), (show 248 + 6 * j + 0 ≤ 7113592 from by omega)⟩ (fun r53 u53 H locs hw53 hP hD hS => ?_)
  obtain ⟨mg53, md53, mF53⟩ := u53
  have hP : va_P D vwCl ([(qo, .inl (cL, 1, .inr (.inl fo)))] ++ (cw cI a g51 d51 F51 ++ (mw cI am mg53 md53 mF53))) H := hP
  have hD : va_D (fun q : Nat => s.heap.size ≤ q) ([(qo, .inl (cL, 1, .inr (.inl fo)))] ++ (cw cI a g51 d51 F51 ++ (mw cI am mg53 md53 mF53))) := hD
  refine W.widen (k := 20 + j) (n := 248 + 6 * j) (by omega) (by omega) ?_
  refine lv_pop hx hb dL_law_486 rfl ?_
  refine lv_goto (tgt := 698) hx hb dL_law_487 (by decide) ?_
  refine W.widen (k := 20 + (j + 1)) (n := 248 + 6 * (j + 1)) (by omega) (by omega) ?_
  exact K0 fo g51 d51 F51 mg53 md53 mF53 H locs ls (LI_cp hLI hw51.2) hw53.2.1 trivial (hP.sub [1, 2, 3, 4, 5, 6, 7, 8, 9, 10, 11, 12, 13, 14, 15, 16, 17, 18, 19, 0] rfl) (hD.sub [1, 2, 3, 4, 5, 6, 7, 8, 9, 10, 11, 12, 13, 14, 15, 16, 17, 18, 19, 0] (by decide) rfl) hS (lv_sub hl [0, 1, 2, 3, 4] rfl)
set_option maxHeartbeats 4000000 in
set_option maxRecDepth 100000 in
theorem law_case8 {p : Program} {l : Launch} {e : Env} {s : State} {m : MethodId} {below : List Frame} {meth : Method} {c : Code} {b L : Nat} {xs : Nat → Int32} (hst : l.stackTraces = false) (hL : L ≤ 2560) (C0 : lw_At p s m meth c b L xs) {D : va_G} {cI cL : ClassId} (hKL : KLX D cI cL s) (hZ : ZZ (fun q : Nat => s.heap.size ≤ q) s s.heap) {j : Nat} (hj : 5 * j + 5 ≤ L) {a am : Nat → Nat} {qo : Nat} {fo : Nat → Int64} {g : Nat → Int32} {d : Nat → UInt64} {F : Nat → Nat → Int32} {mg : Nat → Int32} {md : Nat → UInt64} {mF : Nat → Nat → Int32} {H : Heap} {locs : List Loc} {ls : Array Slot} (hLI : LI g d) (hMI : MI mg md mF) (hRR : RR g F mg mF) (hP : va_P D vwCl (cw cI a g d F ++ (mw cI am mg md mF ++ [(qo, .inl (cL, 1, .inr (.inl fo)))])) H) (hD : va_D (fun q : Nat => s.heap.size ≤ q) (cw cI a g d F ++ (mw cI am mg md mF ++ [(qo, .inl (cL, 1, .inr (.inl fo)))]))) (hS : va_S (fun q : Nat => s.heap.size ≤ q) s.heap H locs) (hl : lv_has ls 9 [(4, .int (nI (5 * j))), (3, .ref qo), (2, .ref (am 0)), (1, .ref (a 0)), (0, .ref b)]) (K0 : ∀ (fo : Nat → Int64) (g : Nat → Int32) (d : Nat → UInt64) (F : Nat → Nat → Int32) (mg : Nat → Int32) (md : Nat → UInt64) (mF : Nat → Nat → Int32) (H : Heap) (locs : List Loc) (ls : Array Slot), LI g d → MI mg md mF → RR g F mg mF → va_P D vwCl (cw cI a g d F ++ (mw cI am mg md mF ++ [(qo, .inl (cL, 1, .inr (.inl fo)))])) H → va_D (fun q : Nat => s.heap.size ≤ q) (cw cI a g d F ++ (mw cI am mg md mF ++ [(qo, .inl (cL, 1, .inr (.inl fo)))])) → va_S (fun q : Nat => s.heap.size ≤ q) s.heap H locs → lv_has ls 9 [(4, .int (nI (5 * j))), (3, .ref qo), (2, .ref (am 0)), (1, .ref (a 0)), (0, .ref b)] → W p l e room_1 s m #[Value.ref b] below meth c H locs (20 + (j + 1)) (248 + 6 * (j + 1)) (lw_Z below #[Value.ref b] s) (F0 m 698 ls [])) : W p l e room_1 s m #[Value.ref b] below meth c H locs (20 + j) (248 + 6 * j) (lw_Z below #[Value.ref b] s) (F0 m 490 ls []) := by
  obtain ⟨hx, hb, hr, hml, hown, hts, hX, hbl, hlocks, hgv⟩ := C0
  have hts := fun w h => hts w (wsL_law_in w h)
  have hK := hKL.1
  have hA : ∀ q : Nat, s.heap.size ≤ q → (fun q : Nat => s.heap.size ≤ q) q := fun _ h => h
  have hbA : ¬ (fun q : Nat => s.heap.size ≤ q) b := Nat.not_le.mpr hbl
  refine lv_aload_n hx hb dL_law_490 rfl (lv_at hl 3 rfl) ?_
  refine lv_aload_n hx hb dL_law_491 rfl (lv_at hl 4 rfl) ?_
  refine lv_iload hx hb dL_law_492 (lv_at hl 0 rfl) ?_
  refine lv_iconst (v := 1) hx hb dL_law_494 (by decide) ?_
  refine lv_iadd hx hb dL_law_495 ?_
  refine lv_topi (fun x54 e54 => ?_)
  obtain rfl : x54 = nI (5 * j + 1) := e54.trans sx
  refine va_sld hx hb hX hbl hbA hS (sx_in (k := 1) hj hL (by decide)) dL_law_496 ?_
  refine gc_vi (mc := 0) (ms := 0) (As := [.int ((xs (nI (5 * j + 1)).toNatClampNeg))]) (rest := []) (w0 := cw cI a g d F ++ (mw cI am mg md mF ++ ([(qo, .inl (cL, 1, .inr (.inl fo)))]))) (wc := cw cI a g d F) (wr := mw cI am mg md mF ++ ([(qo, .inl (cL, 1, .inr (.inl fo)))])) (wf := wfC cI a) ⟨hx, hb, hml, hown, hts⟩ (KLX_C hKL) (KC_ok D cI) hP hD hS hA [0, 1, 2, 3, 4, 5, 6, 7, 8, 9, 10, 11] [12, 13, 14, 15, 16, 17, 18, 19] rfl rfl (by decide) (s_X6_lay l D cI a _ g d F ((xs (nI (5 * j + 1)).toNatClampNeg)) hLI.1 hLI.2.1 hLI.2.2) (cwV 1 hts gL_law_X6_lay rfl rfl rfl (by decide +kernel) ⟨Nat.le_of_ble_eq_true rfl, Nat.le_of_ble_eq_true rfl⟩) (va_recv hK hP (ci := 6) (q0 := 0) rfl rfl) rfl hl.1 rfl (Nat.le_of_ble_eq_true rfl) dL_law_497 ⟨(show 20 + j + 0 ≤ 660837 from by omega), (show 248 + 6 * j + 0 ≤ 7113592 from by omega)⟩ (fun r55 u55 H locs hw55 hP hD hS => ?_)
  obtain ⟨g55, d55, F55⟩ := u55
  have hP : va_P D vwCl (mw cI am mg md mF ++ ([(qo, .inl (cL, 1, .inr (.inl fo)))] ++ (cw cI a g55 d55 F55))) H := hP
  have hD : va_D (fun q : Nat => s.heap.size ≤ q) (mw cI am mg md mF ++ ([(qo, .inl (cL, 1, .inr (.inl fo)))] ++ (cw cI a g55 d55 F55))) := hD
  refine W.widen (k := 20 + j) (n := 248 + 6 * j) (by omega) (by omega) ?_
  refine lv_pop hx hb dL_law_500 rfl ?_
  refine lv_aload_n hx hb dL_law_501 rfl (lv_at hl 2 rfl) ?_
  refine lv_aload_n hx hb dL_law_502 rfl (lv_at hl 4 rfl) ?_
  refine lv_iload hx hb dL_law_503 (lv_at hl 0 rfl) ?_
  refine lv_iconst (v := 1) hx hb dL_law_505 (by decide) ?_
  refine lv_iadd hx hb dL_law_506 ?_
  refine lv_topi (fun x56 e56 => ?_)
  obtain rfl : x56 = nI (5 * j + 1) := e56.trans sx
  refine va_sld hx hb hX hbl hbA hS (sx_in (k := 1) hj hL (by decide)) dL_law_507 ?_
  refine gc_vi (mc := 0) (ms := 0) (As := [.int ((xs (nI (5 * j + 1)).toNatClampNeg))]) (rest := []) (w0 := mw cI am mg md mF ++ ([(qo, .inl (cL, 1, .inr (.inl fo)))] ++ (cw cI a g55 d55 F55))) (wc := mw cI am mg md mF) (wr := [(qo, .inl (cL, 1, .inr (.inl fo)))] ++ (cw cI a g55 d55 F55)) (wf := wfM cI am) ⟨hx, hb, hml, hown, hts⟩ (KLX_M hKL) (KM_ok D cI) hP hD hS hA [0, 1, 2, 3, 4, 5, 6] [7, 8, 9, 10, 11, 12, 13, 14, 15, 16, 17, 18, 19] rfl rfl (by decide) (s_X7_lay l D cI am _ mg md mF ((xs (nI (5 * j + 1)).toNatClampNeg)) hMI) (cwV 1 hts gL_law_X7_lay rfl rfl rfl (by decide +kernel) ⟨Nat.le_of_ble_eq_true rfl, Nat.le_of_ble_eq_true rfl⟩) (va_recv hK hP (ci := 7) (q0 := 0) rfl rfl) rfl hl.1 rfl (Nat.le_of_ble_eq_true rfl) dL_law_508 ⟨(show 20 + j + 0 ≤ 660837 from by omega), (show 248 + 6 * j + 0 ≤ 7113592 from by omega)⟩ (fun r57 u57 H locs hw57 hP hD hS => ?_)
  obtain ⟨mg57, md57, mF57⟩ := u57
  have hP : va_P D vwCl ([(qo, .inl (cL, 1, .inr (.inl fo)))] ++ (cw cI a g55 d55 F55 ++ (mw cI am mg57 md57 mF57))) H := hP
  have hD : va_D (fun q : Nat => s.heap.size ≤ q) ([(qo, .inl (cL, 1, .inr (.inl fo)))] ++ (cw cI a g55 d55 F55 ++ (mw cI am mg57 md57 mF57))) := hD
  refine W.widen (k := 20 + j) (n := 248 + 6 * j) (by omega) (by omega) ?_
  refine lv_pop hx hb dL_law_511 rfl ?_
  refine lv_goto (tgt := 698) hx hb dL_law_512 (by decide) ?_
  refine W.widen (k := 20 + (j + 1)) (n := 248 + 6 * (j + 1)) (by omega) (by omega) ?_
  exact K0 fo g55 d55 F55 mg57 md57 mF57 H locs ls ⟨hw55.2.2.1, hw55.1, hw55.2.1⟩ hw57.1 trivial (hP.sub [1, 2, 3, 4, 5, 6, 7, 8, 9, 10, 11, 12, 13, 14, 15, 16, 17, 18, 19, 0] rfl) (hD.sub [1, 2, 3, 4, 5, 6, 7, 8, 9, 10, 11, 12, 13, 14, 15, 16, 17, 18, 19, 0] (by decide) rfl) hS (lv_sub hl [0, 1, 2, 3, 4] rfl)
set_option maxHeartbeats 4000000 in
set_option maxRecDepth 100000 in
theorem law_case9 {p : Program} {l : Launch} {e : Env} {s : State} {m : MethodId} {below : List Frame} {meth : Method} {c : Code} {b L : Nat} {xs : Nat → Int32} (hst : l.stackTraces = false) (hL : L ≤ 2560) (C0 : lw_At p s m meth c b L xs) {D : va_G} {cI cL : ClassId} (hKL : KLX D cI cL s) (hZ : ZZ (fun q : Nat => s.heap.size ≤ q) s s.heap) {j : Nat} (hj : 5 * j + 5 ≤ L) {a am : Nat → Nat} {qo : Nat} {fo : Nat → Int64} {g : Nat → Int32} {d : Nat → UInt64} {F : Nat → Nat → Int32} {mg : Nat → Int32} {md : Nat → UInt64} {mF : Nat → Nat → Int32} {H : Heap} {locs : List Loc} {ls : Array Slot} (hLI : LI g d) (hMI : MI mg md mF) (hRR : RR g F mg mF) (hP : va_P D vwCl (cw cI a g d F ++ (mw cI am mg md mF ++ [(qo, .inl (cL, 1, .inr (.inl fo)))])) H) (hD : va_D (fun q : Nat => s.heap.size ≤ q) (cw cI a g d F ++ (mw cI am mg md mF ++ [(qo, .inl (cL, 1, .inr (.inl fo)))]))) (hS : va_S (fun q : Nat => s.heap.size ≤ q) s.heap H locs) (hl : lv_has ls 9 [(4, .int (nI (5 * j))), (3, .ref qo), (2, .ref (am 0)), (1, .ref (a 0)), (0, .ref b)]) (K0 : ∀ (fo : Nat → Int64) (g : Nat → Int32) (d : Nat → UInt64) (F : Nat → Nat → Int32) (mg : Nat → Int32) (md : Nat → UInt64) (mF : Nat → Nat → Int32) (H : Heap) (locs : List Loc) (ls : Array Slot), LI g d → MI mg md mF → RR g F mg mF → va_P D vwCl (cw cI a g d F ++ (mw cI am mg md mF ++ [(qo, .inl (cL, 1, .inr (.inl fo)))])) H → va_D (fun q : Nat => s.heap.size ≤ q) (cw cI a g d F ++ (mw cI am mg md mF ++ [(qo, .inl (cL, 1, .inr (.inl fo)))])) → va_S (fun q : Nat => s.heap.size ≤ q) s.heap H locs → lv_has ls 9 [(4, .int (nI (5 * j))), (3, .ref qo), (2, .ref (am 0)), (1, .ref (a 0)), (0, .ref b)] → W p l e room_1 s m #[Value.ref b] below meth c H locs (20 + (j + 1)) (248 + 6 * (j + 1)) (lw_Z below #[Value.ref b] s) (F0 m 698 ls [])) : W p l e room_1 s m #[Value.ref b] below meth c H locs (20 + j) (248 + 6 * j) (lw_Z below #[Value.ref b] s) (F0 m 515 ls []) := by
  obtain ⟨hx, hb, hr, hml, hown, hts, hX, hbl, hlocks, hgv⟩ := C0
  have hts := fun w h => hts w (wsL_law_in w h)
  have hK := hKL.1
  have hA : ∀ q : Nat, s.heap.size ≤ q → (fun q : Nat => s.heap.size ≤ q) q := fun _ h => h
  have hbA : ¬ (fun q : Nat => s.heap.size ≤ q) b := Nat.not_le.mpr hbl
  refine lv_aload_n hx hb dL_law_515 rfl (lv_at hl 3 rfl) ?_
  refine gc_vi (mc := 0) (ms := 0) (As := []) (rest := []) (w0 := cw cI a g d F ++ (mw cI am mg md mF ++ ([(qo, .inl (cL, 1, .inr (.inl fo)))]))) (wc := cw cI a g d F) (wr := mw cI am mg md mF ++ ([(qo, .inl (cL, 1, .inr (.inl fo)))])) (wf := wfC cI a) ⟨hx, hb, hml, hown, hts⟩ (KLX_C hKL) (KC_ok D cI) hP hD hS hA [0, 1, 2, 3, 4, 5, 6, 7, 8, 9, 10, 11] [12, 13, 14, 15, 16, 17, 18, 19] rfl rfl (by decide) (s_X6_strip l D cI a _ g d F hLI.1) (cwV 0 hts gL_law_X6_strip rfl rfl rfl (by decide +kernel) ⟨Nat.le_of_ble_eq_true rfl, Nat.le_of_ble_eq_true rfl⟩) (va_recv hK hP (ci := 6) (q0 := 0) rfl rfl) rfl hl.1 rfl (Nat.le_of_ble_eq_true rfl) dL_law_516 ⟨(show 20 + j + 0 ≤ 660837 from by omega), (show 248 + 6 * j + 0 ≤ 7113592 from by omega)⟩ (fun r58 u58 H locs hw58 hP hD hS => ?_)
  obtain ⟨g58, d58, F58⟩ := u58
  have hP : va_P D vwCl (mw cI am mg md mF ++ ([(qo, .inl (cL, 1, .inr (.inl fo)))] ++ (cw cI a g58 d58 F58))) H := hP
  have hD : va_D (fun q : Nat => s.heap.size ≤ q) (mw cI am mg md mF ++ ([(qo, .inl (cL, 1, .inr (.inl fo)))] ++ (cw cI a g58 d58 F58))) := hD
  refine W.widen (k := 20 + j) (n := 248 + 6 * j) (by omega) (by omega) ?_
  refine lv_pop hx hb dL_law_519 rfl ?_
  refine lv_aload_n hx hb dL_law_520 rfl (lv_at hl 2 rfl) ?_
  refine gc_vi (mc := 0) (ms := 0) (As := []) (rest := []) (w0 := mw cI am mg md mF ++ ([(qo, .inl (cL, 1, .inr (.inl fo)))] ++ (cw cI a g58 d58 F58))) (wc := mw cI am mg md mF) (wr := [(qo, .inl (cL, 1, .inr (.inl fo)))] ++ (cw cI a g58 d58 F58)) (wf := wfM cI am) ⟨hx, hb, hml, hown, hts⟩ (KLX_M hKL) (KM_ok D cI) hP hD hS hA [0, 1, 2, 3, 4, 5, 6] [7, 8, 9, 10, 11, 12, 13, 14, 15, 16, 17, 18, 19] rfl rfl (by decide) (s_X7_strip l D cI am _ mg md mF hMI) (cwV 0 hts gL_law_X7_strip rfl rfl rfl (by decide +kernel) ⟨Nat.le_of_ble_eq_true rfl, Nat.le_of_ble_eq_true rfl⟩) (va_recv hK hP (ci := 7) (q0 := 0) rfl rfl) rfl hl.1 rfl (Nat.le_of_ble_eq_true rfl) dL_law_521 ⟨(show 20 + j + 0 ≤ 660837 from by omega), (show 248 + 6 * j + 0 ≤ 7113592 from by omega)⟩ (fun r59 u59 H locs hw59 hP hD hS => ?_)
  obtain ⟨mg59, md59, mF59⟩ := u59
  have hP : va_P D vwCl ([(qo, .inl (cL, 1, .inr (.inl fo)))] ++ (cw cI a g58 d58 F58 ++ (mw cI am mg59 md59 mF59))) H := hP
  have hD : va_D (fun q : Nat => s.heap.size ≤ q) ([(qo, .inl (cL, 1, .inr (.inl fo)))] ++ (cw cI a g58 d58 F58 ++ (mw cI am mg59 md59 mF59))) := hD
  refine W.widen (k := 20 + j) (n := 248 + 6 * j) (by omega) (by omega) ?_
  refine lv_pop hx hb dL_law_524 rfl ?_
  refine lv_goto (tgt := 698) hx hb dL_law_525 (by decide) ?_
  refine W.widen (k := 20 + (j + 1)) (n := 248 + 6 * (j + 1)) (by omega) (by omega) ?_
  exact K0 fo g58 d58 F58 mg59 md59 mF59 H locs ls ⟨hw58.2.1, by show 0 ≤ (g58 0).toInt; rw [show g58 0 = 0 from hw58.2.2.1]; decide, by show (g58 0).toInt ≤ 5; rw [show g58 0 = 0 from hw58.2.2.1]; decide⟩ hw59.2.1 trivial (hP.sub [1, 2, 3, 4, 5, 6, 7, 8, 9, 10, 11, 12, 13, 14, 15, 16, 17, 18, 19, 0] rfl) (hD.sub [1, 2, 3, 4, 5, 6, 7, 8, 9, 10, 11, 12, 13, 14, 15, 16, 17, 18, 19, 0] (by decide) rfl) hS (lv_sub hl [0, 1, 2, 3, 4] rfl)
set_option maxHeartbeats 4000000 in
set_option maxRecDepth 100000 in
theorem law_case10 {p : Program} {l : Launch} {e : Env} {s : State} {m : MethodId} {below : List Frame} {meth : Method} {c : Code} {b L : Nat} {xs : Nat → Int32} (hst : l.stackTraces = false) (hL : L ≤ 2560) (C0 : lw_At p s m meth c b L xs) {D : va_G} {cI cL : ClassId} (hKL : KLX D cI cL s) (hZ : ZZ (fun q : Nat => s.heap.size ≤ q) s s.heap) {j : Nat} (hj : 5 * j + 5 ≤ L) {a am : Nat → Nat} {qo : Nat} {fo : Nat → Int64} {g : Nat → Int32} {d : Nat → UInt64} {F : Nat → Nat → Int32} {mg : Nat → Int32} {md : Nat → UInt64} {mF : Nat → Nat → Int32} {H : Heap} {locs : List Loc} {ls : Array Slot} (hLI : LI g d) (hMI : MI mg md mF) (hRR : RR g F mg mF) (hP : va_P D vwCl (cw cI a g d F ++ (mw cI am mg md mF ++ [(qo, .inl (cL, 1, .inr (.inl fo)))])) H) (hD : va_D (fun q : Nat => s.heap.size ≤ q) (cw cI a g d F ++ (mw cI am mg md mF ++ [(qo, .inl (cL, 1, .inr (.inl fo)))]))) (hS : va_S (fun q : Nat => s.heap.size ≤ q) s.heap H locs) (hl : lv_has ls 9 [(4, .int (nI (5 * j))), (3, .ref qo), (2, .ref (am 0)), (1, .ref (a 0)), (0, .ref b)]) (K0 : ∀ (fo : Nat → Int64) (g : Nat → Int32) (d : Nat → UInt64) (F : Nat → Nat → Int32) (mg : Nat → Int32) (md : Nat → UInt64) (mF : Nat → Nat → Int32) (H : Heap) (locs : List Loc) (ls : Array Slot), LI g d → MI mg md mF → RR g F mg mF → va_P D vwCl (cw cI a g d F ++ (mw cI am mg md mF ++ [(qo, .inl (cL, 1, .inr (.inl fo)))])) H → va_D (fun q : Nat => s.heap.size ≤ q) (cw cI a g d F ++ (mw cI am mg md mF ++ [(qo, .inl (cL, 1, .inr (.inl fo)))])) → va_S (fun q : Nat => s.heap.size ≤ q) s.heap H locs → lv_has ls 9 [(4, .int (nI (5 * j))), (3, .ref qo), (2, .ref (am 0)), (1, .ref (a 0)), (0, .ref b)] → W p l e room_1 s m #[Value.ref b] below meth c H locs (20 + (j + 1)) (248 + 6 * (j + 1)) (lw_Z below #[Value.ref b] s) (F0 m 698 ls [])) : W p l e room_1 s m #[Value.ref b] below meth c H locs (20 + j) (248 + 6 * j) (lw_Z below #[Value.ref b] s) (F0 m 528 ls []) := by
  obtain ⟨hx, hb, hr, hml, hown, hts, hX, hbl, hlocks, hgv⟩ := C0
  have hts := fun w h => hts w (wsL_law_in w h)
  have hK := hKL.1
  have hA : ∀ q : Nat, s.heap.size ≤ q → (fun q : Nat => s.heap.size ≤ q) q := fun _ h => h
  have hbA : ¬ (fun q : Nat => s.heap.size ≤ q) b := Nat.not_le.mpr hbl
  refine lv_aload_n hx hb dL_law_528 rfl (lv_at hl 3 rfl) ?_
  refine lv_aload_n hx hb dL_law_529 rfl (lv_at hl 4 rfl) ?_
  refine lv_iload hx hb dL_law_530 (lv_at hl 0 rfl) ?_
  refine lv_iconst (v := 1) hx hb dL_law_532 (by decide) ?_
  refine lv_iadd hx hb dL_law_533 ?_
  refine lv_topi (fun x60 e60 => ?_)
  obtain rfl : x60 = nI (5 * j + 1) := e60.trans sx
  refine va_sld hx hb hX hbl hbA hS (sx_in (k := 1) hj hL (by decide)) dL_law_534 ?_
  refine lv_aload_n hx hb dL_law_535 rfl (lv_at hl 4 rfl) ?_
  refine lv_iload hx hb dL_law_536 (lv_at hl 0 rfl) ?_
  refine lv_iconst (v := 2) hx hb dL_law_538 (by decide) ?_
  refine lv_iadd hx hb dL_law_539 ?_
  refine lv_topi (fun x61 e61 => ?_)
  obtain rfl : x61 = nI (5 * j + 2) := e61.trans sx
  refine va_sld hx hb hX hbl hbA hS (sx_in (k := 2) hj hL (by decide)) dL_law_540 ?_
  refine lv_aload_n hx hb dL_law_541 rfl (lv_at hl 4 rfl) ?_
  refine lv_iload hx hb dL_law_542 (lv_at hl 0 rfl) ?_
  refine lv_iconst (v := 3) hx hb dL_law_544 (by decide) ?_
  refine lv_iadd hx hb dL_law_545 ?_
  refine lv_topi (fun x62 e62 => ?_)
  obtain rfl : x62 = nI (5 * j + 3) := e62.trans sx
  refine va_sld hx hb hX hbl hbA hS (sx_in (k := 3) hj hL (by decide)) dL_law_546 ?_
  refine gc_vi (mc := 0) (ms := 0) (As := [.int ((xs (nI (5 * j + 1)).toNatClampNeg)), .int ((xs (nI (5 * j + 2)).toNatClampNeg)), .int ((xs (nI (5 * j + 3)).toNatClampNeg))]) (rest := []) (w0 := cw cI a g d F ++ (mw cI am mg md mF ++ ([(qo, .inl (cL, 1, .inr (.inl fo)))]))) (wc := cw cI a g d F) (wr := mw cI am mg md mF ++ ([(qo, .inl (cL, 1, .inr (.inl fo)))])) (wf := wfC cI a) ⟨hx, hb, hml, hown, hts⟩ (KLX_C hKL) (KC_ok D cI) hP hD hS hA [0, 1, 2, 3, 4, 5, 6, 7, 8, 9, 10, 11] [12, 13, 14, 15, 16, 17, 18, 19] rfl rfl (by decide) (s_X6_outcome l D cI a _ g d F ((xs (nI (5 * j + 1)).toNatClampNeg)) ((xs (nI (5 * j + 2)).toNatClampNeg)) ((xs (nI (5 * j + 3)).toNatClampNeg)) hLI.1) (cwV 3 hts gL_law_X6_outcome rfl rfl rfl (by decide +kernel) ⟨Nat.le_of_ble_eq_true rfl, Nat.le_of_ble_eq_true rfl⟩) (va_recv hK hP (ci := 6) (q0 := 0) rfl rfl) rfl hl.1 rfl (Nat.le_of_ble_eq_true rfl) dL_law_547 ⟨(show 20 + j + 0 ≤ 660837 from by omega), (show 248 + 6 * j + 0 ≤ 7113592 from by omega)⟩ (fun r63 u63 H locs hw63 hP hD hS => ?_)
  obtain ⟨g63, d63, F63⟩ := u63
  have hP : va_P D vwCl (mw cI am mg md mF ++ ([(qo, .inl (cL, 1, .inr (.inl fo)))] ++ (cw cI a g63 d63 F63))) H := hP
  have hD : va_D (fun q : Nat => s.heap.size ≤ q) (mw cI am mg md mF ++ ([(qo, .inl (cL, 1, .inr (.inl fo)))] ++ (cw cI a g63 d63 F63))) := hD
  refine W.widen (k := 20 + j) (n := 248 + 6 * j) (by omega) (by omega) ?_
  refine lv_pop hx hb dL_law_550 rfl ?_
  refine lv_aload_n hx hb dL_law_551 rfl (lv_at hl 2 rfl) ?_
  refine lv_aload_n hx hb dL_law_552 rfl (lv_at hl 4 rfl) ?_
  refine lv_iload hx hb dL_law_553 (lv_at hl 0 rfl) ?_
  refine lv_iconst (v := 1) hx hb dL_law_555 (by decide) ?_
  refine lv_iadd hx hb dL_law_556 ?_
  refine lv_topi (fun x64 e64 => ?_)
  obtain rfl : x64 = nI (5 * j + 1) := e64.trans sx
  refine va_sld hx hb hX hbl hbA hS (sx_in (k := 1) hj hL (by decide)) dL_law_557 ?_
  refine lv_aload_n hx hb dL_law_558 rfl (lv_at hl 4 rfl) ?_
  refine lv_iload hx hb dL_law_559 (lv_at hl 0 rfl) ?_
  refine lv_iconst (v := 2) hx hb dL_law_561 (by decide) ?_
  refine lv_iadd hx hb dL_law_562 ?_
  refine lv_topi (fun x65 e65 => ?_)
  obtain rfl : x65 = nI (5 * j + 2) := e65.trans sx
  refine va_sld hx hb hX hbl hbA hS (sx_in (k := 2) hj hL (by decide)) dL_law_563 ?_
  refine lv_aload_n hx hb dL_law_564 rfl (lv_at hl 4 rfl) ?_
  refine lv_iload hx hb dL_law_565 (lv_at hl 0 rfl) ?_
  refine lv_iconst (v := 3) hx hb dL_law_567 (by decide) ?_
  refine lv_iadd hx hb dL_law_568 ?_
  refine lv_topi (fun x66 e66 => ?_)
  obtain rfl : x66 = nI (5 * j + 3) := e66.trans sx
  refine va_sld hx hb hX hbl hbA hS (sx_in (k := 3) hj hL (by decide)) dL_law_569 ?_
  refine gc_vi (mc := 0) (ms := 0) (As := [.int ((xs (nI (5 * j + 1)).toNatClampNeg)), .int ((xs (nI (5 * j + 2)).toNatClampNeg)), .int ((xs (nI (5 * j + 3)).toNatClampNeg))]) (rest := []) (w0 := mw cI am mg md mF ++ ([(qo, .inl (cL, 1, .inr (.inl fo)))] ++ (cw cI a g63 d63 F63))) (wc := mw cI am mg md mF) (wr := [(qo, .inl (cL, 1, .inr (.inl fo)))] ++ (cw cI a g63 d63 F63)) (wf := wfM cI am) ⟨hx, hb, hml, hown, hts⟩ (KLX_M hKL) (KM_ok D cI) hP hD hS hA [0, 1, 2, 3, 4, 5, 6] [7, 8, 9, 10, 11, 12, 13, 14, 15, 16, 17, 18, 19] rfl rfl (by decide) (s_X7_outcome l D cI am _ mg md mF ((xs (nI (5 * j + 1)).toNatClampNeg)) ((xs (nI (5 * j + 2)).toNatClampNeg)) ((xs (nI (5 * j + 3)).toNatClampNeg)) hMI) (cwV 3 hts gL_law_X7_outcome rfl rfl rfl (by decide +kernel) ⟨Nat.le_of_ble_eq_true rfl, Nat.le_of_ble_eq_true rfl⟩) (va_recv hK hP (ci := 7) (q0 := 0) rfl rfl) rfl hl.1 rfl (Nat.le_of_ble_eq_true rfl) dL_law_570 ⟨(show 20 + j + 0 ≤ 660837 from by omega), (show 248 + 6 * j + 0 ≤ 7113592 from by omega)⟩ (fun r67 u67 H locs hw67 hP hD hS => ?_)
  obtain ⟨mg67, md67, mF67⟩ := u67
  have hP : va_P D vwCl ([(qo, .inl (cL, 1, .inr (.inl fo)))] ++ (cw cI a g63 d63 F63 ++ (mw cI am mg67 md67 mF67))) H := hP
  have hD : va_D (fun q : Nat => s.heap.size ≤ q) ([(qo, .inl (cL, 1, .inr (.inl fo)))] ++ (cw cI a g63 d63 F63 ++ (mw cI am mg67 md67 mF67))) := hD
  refine W.widen (k := 20 + j) (n := 248 + 6 * j) (by omega) (by omega) ?_
  refine lv_pop hx hb dL_law_573 rfl ?_
  refine lv_goto (tgt := 698) hx hb dL_law_574 (by decide) ?_
  refine W.widen (k := 20 + (j + 1)) (n := 248 + 6 * (j + 1)) (by omega) (by omega) ?_
  exact K0 fo g63 d63 F63 mg67 md67 mF67 H locs ls (LI_cp hLI hw63.2) hw67.2.1 trivial (hP.sub [1, 2, 3, 4, 5, 6, 7, 8, 9, 10, 11, 12, 13, 14, 15, 16, 17, 18, 19, 0] rfl) (hD.sub [1, 2, 3, 4, 5, 6, 7, 8, 9, 10, 11, 12, 13, 14, 15, 16, 17, 18, 19, 0] (by decide) rfl) hS (lv_sub hl [0, 1, 2, 3, 4] rfl)
set_option maxHeartbeats 4000000 in
set_option maxRecDepth 100000 in
theorem law_case11 {p : Program} {l : Launch} {e : Env} {s : State} {m : MethodId} {below : List Frame} {meth : Method} {c : Code} {b L : Nat} {xs : Nat → Int32} (hst : l.stackTraces = false) (hL : L ≤ 2560) (C0 : lw_At p s m meth c b L xs) {D : va_G} {cI cL : ClassId} (hKL : KLX D cI cL s) (hZ : ZZ (fun q : Nat => s.heap.size ≤ q) s s.heap) {j : Nat} (hj : 5 * j + 5 ≤ L) {a am : Nat → Nat} {qo : Nat} {fo : Nat → Int64} {g : Nat → Int32} {d : Nat → UInt64} {F : Nat → Nat → Int32} {mg : Nat → Int32} {md : Nat → UInt64} {mF : Nat → Nat → Int32} {H : Heap} {locs : List Loc} {ls : Array Slot} (hLI : LI g d) (hMI : MI mg md mF) (hRR : RR g F mg mF) (hP : va_P D vwCl (cw cI a g d F ++ (mw cI am mg md mF ++ [(qo, .inl (cL, 1, .inr (.inl fo)))])) H) (hD : va_D (fun q : Nat => s.heap.size ≤ q) (cw cI a g d F ++ (mw cI am mg md mF ++ [(qo, .inl (cL, 1, .inr (.inl fo)))]))) (hS : va_S (fun q : Nat => s.heap.size ≤ q) s.heap H locs) (hl : lv_has ls 9 [(4, .int (nI (5 * j))), (3, .ref qo), (2, .ref (am 0)), (1, .ref (a 0)), (0, .ref b)]) (K0 : ∀ (fo : Nat → Int64) (g : Nat → Int32) (d : Nat → UInt64) (F : Nat → Nat → Int32) (mg : Nat → Int32) (md : Nat → UInt64) (mF : Nat → Nat → Int32) (H : Heap) (locs : List Loc) (ls : Array Slot), LI g d → MI mg md mF → RR g F mg mF → va_P D vwCl (cw cI a g d F ++ (mw cI am mg md mF ++ [(qo, .inl (cL, 1, .inr (.inl fo)))])) H → va_D (fun q : Nat => s.heap.size ≤ q) (cw cI a g d F ++ (mw cI am mg md mF ++ [(qo, .inl (cL, 1, .inr (.inl fo)))])) → va_S (fun q : Nat => s.heap.size ≤ q) s.heap H locs → lv_has ls 9 [(4, .int (nI (5 * j))), (3, .ref qo), (2, .ref (am 0)), (1, .ref (a 0)), (0, .ref b)] → W p l e room_1 s m #[Value.ref b] below meth c H locs (20 + (j + 1)) (248 + 6 * (j + 1)) (lw_Z below #[Value.ref b] s) (F0 m 698 ls [])) : W p l e room_1 s m #[Value.ref b] below meth c H locs (20 + j) (248 + 6 * j) (lw_Z below #[Value.ref b] s) (F0 m 577 ls []) := by
  obtain ⟨hx, hb, hr, hml, hown, hts, hX, hbl, hlocks, hgv⟩ := C0
  have hts := fun w h => hts w (wsL_law_in w h)
  have hK := hKL.1
  have hA : ∀ q : Nat, s.heap.size ≤ q → (fun q : Nat => s.heap.size ≤ q) q := fun _ h => h
  have hbA : ¬ (fun q : Nat => s.heap.size ≤ q) b := Nat.not_le.mpr hbl
  refine lv_aload_n hx hb dL_law_577 rfl (lv_at hl 3 rfl) ?_
  refine lv_aload_n hx hb dL_law_578 rfl (lv_at hl 4 rfl) ?_
  refine lv_iload hx hb dL_law_579 (lv_at hl 0 rfl) ?_
  refine lv_iconst (v := 1) hx hb dL_law_581 (by decide) ?_
  refine lv_iadd hx hb dL_law_582 ?_
  refine lv_topi (fun x68 e68 => ?_)
  obtain rfl : x68 = nI (5 * j + 1) := e68.trans sx
  refine va_sld hx hb hX hbl hbA hS (sx_in (k := 1) hj hL (by decide)) dL_law_583 ?_
  refine gc_vi (mc := 0) (ms := 0) (As := [.int ((xs (nI (5 * j + 1)).toNatClampNeg))]) (rest := []) (w0 := cw cI a g d F ++ (mw cI am mg md mF ++ ([(qo, .inl (cL, 1, .inr (.inl fo)))]))) (wc := cw cI a g d F) (wr := mw cI am mg md mF ++ ([(qo, .inl (cL, 1, .inr (.inl fo)))])) (wf := wfC cI a) ⟨hx, hb, hml, hown, hts⟩ (KLX_C hKL) (KC_ok D cI) hP hD hS hA [0, 1, 2, 3, 4, 5, 6, 7, 8, 9, 10, 11] [12, 13, 14, 15, 16, 17, 18, 19] rfl rfl (by decide) (s_X6_pass l D cI a _ g d F ((xs (nI (5 * j + 1)).toNatClampNeg)) hLI.1) (cwV 1 hts gL_law_X6_pass rfl rfl rfl (by decide +kernel) ⟨Nat.le_of_ble_eq_true rfl, Nat.le_of_ble_eq_true rfl⟩) (va_recv hK hP (ci := 6) (q0 := 0) rfl rfl) rfl hl.1 rfl (Nat.le_of_ble_eq_true rfl) dL_law_584 ⟨(show 20 + j + 0 ≤ 660837 from by omega), (show 248 + 6 * j + 0 ≤ 7113592 from by omega)⟩ (fun r69 u69 H locs hw69 hP hD hS => ?_)
  obtain ⟨g69, d69, F69⟩ := u69
  have hP : va_P D vwCl (mw cI am mg md mF ++ ([(qo, .inl (cL, 1, .inr (.inl fo)))] ++ (cw cI a g69 d69 F69))) H := hP
  have hD : va_D (fun q : Nat => s.heap.size ≤ q) (mw cI am mg md mF ++ ([(qo, .inl (cL, 1, .inr (.inl fo)))] ++ (cw cI a g69 d69 F69))) := hD
  refine W.widen (k := 20 + j) (n := 248 + 6 * j) (by omega) (by omega) ?_
  refine lv_pop hx hb dL_law_587 rfl ?_
  refine lv_aload_n hx hb dL_law_588 rfl (lv_at hl 2 rfl) ?_
  refine lv_aload_n hx hb dL_law_589 rfl (lv_at hl 4 rfl) ?_
  refine lv_iload hx hb dL_law_590 (lv_at hl 0 rfl) ?_
  refine lv_iconst (v := 1) hx hb dL_law_592 (by decide) ?_
  refine lv_iadd hx hb dL_law_593 ?_
  refine lv_topi (fun x70 e70 => ?_)
  obtain rfl : x70 = nI (5 * j + 1) := e70.trans sx
  refine va_sld hx hb hX hbl hbA hS (sx_in (k := 1) hj hL (by decide)) dL_law_594 ?_
  refine gc_vi (mc := 0) (ms := 0) (As := [.int ((xs (nI (5 * j + 1)).toNatClampNeg))]) (rest := []) (w0 := mw cI am mg md mF ++ ([(qo, .inl (cL, 1, .inr (.inl fo)))] ++ (cw cI a g69 d69 F69))) (wc := mw cI am mg md mF) (wr := [(qo, .inl (cL, 1, .inr (.inl fo)))] ++ (cw cI a g69 d69 F69)) (wf := wfM cI am) ⟨hx, hb, hml, hown, hts⟩ (KLX_M hKL) (KM_ok D cI) hP hD hS hA [0, 1, 2, 3, 4, 5, 6] [7, 8, 9, 10, 11, 12, 13, 14, 15, 16, 17, 18, 19] rfl rfl (by decide) (s_X7_pass l D cI am _ mg md mF ((xs (nI (5 * j + 1)).toNatClampNeg)) hMI) (cwV 1 hts gL_law_X7_pass rfl rfl rfl (by decide +kernel) ⟨Nat.le_of_ble_eq_true rfl, Nat.le_of_ble_eq_true rfl⟩) (va_recv hK hP (ci := 7) (q0 := 0) rfl rfl) rfl hl.1 rfl (Nat.le_of_ble_eq_true rfl) dL_law_595 ⟨(show 20 + j + 0 ≤ 660837 from by omega), (show 248 + 6 * j + 0 ≤ 7113592 from by omega)⟩ (fun r71 u71 H locs hw71 hP hD hS => ?_)
  obtain ⟨mg71, md71, mF71⟩ := u71
  have hP : va_P D vwCl ([(qo, .inl (cL, 1, .inr (.inl fo)))] ++ (cw cI a g69 d69 F69 ++ (mw cI am mg71 md71 mF71))) H := hP
  have hD : va_D (fun q : Nat => s.heap.size ≤ q) ([(qo, .inl (cL, 1, .inr (.inl fo)))] ++ (cw cI a g69 d69 F69 ++ (mw cI am mg71 md71 mF71))) := hD
  refine W.widen (k := 20 + j) (n := 248 + 6 * j) (by omega) (by omega) ?_
  refine lv_pop hx hb dL_law_598 rfl ?_
  refine lv_goto (tgt := 698) hx hb dL_law_599 (by decide) ?_
  refine W.widen (k := 20 + (j + 1)) (n := 248 + 6 * (j + 1)) (by omega) (by omega) ?_
  exact K0 fo g69 d69 F69 mg71 md71 mF71 H locs ls (LI_cp hLI hw69.2) hw71.2.1 trivial (hP.sub [1, 2, 3, 4, 5, 6, 7, 8, 9, 10, 11, 12, 13, 14, 15, 16, 17, 18, 19, 0] rfl) (hD.sub [1, 2, 3, 4, 5, 6, 7, 8, 9, 10, 11, 12, 13, 14, 15, 16, 17, 18, 19, 0] (by decide) rfl) hS (lv_sub hl [0, 1, 2, 3, 4] rfl)
set_option maxHeartbeats 4000000 in
set_option maxRecDepth 100000 in
theorem law_case12 {p : Program} {l : Launch} {e : Env} {s : State} {m : MethodId} {below : List Frame} {meth : Method} {c : Code} {b L : Nat} {xs : Nat → Int32} (hst : l.stackTraces = false) (hL : L ≤ 2560) (C0 : lw_At p s m meth c b L xs) {D : va_G} {cI cL : ClassId} (hKL : KLX D cI cL s) (hZ : ZZ (fun q : Nat => s.heap.size ≤ q) s s.heap) {j : Nat} (hj : 5 * j + 5 ≤ L) {a am : Nat → Nat} {qo : Nat} {fo : Nat → Int64} {g : Nat → Int32} {d : Nat → UInt64} {F : Nat → Nat → Int32} {mg : Nat → Int32} {md : Nat → UInt64} {mF : Nat → Nat → Int32} {H : Heap} {locs : List Loc} {ls : Array Slot} (hLI : LI g d) (hMI : MI mg md mF) (hRR : RR g F mg mF) (hP : va_P D vwCl (cw cI a g d F ++ (mw cI am mg md mF ++ [(qo, .inl (cL, 1, .inr (.inl fo)))])) H) (hD : va_D (fun q : Nat => s.heap.size ≤ q) (cw cI a g d F ++ (mw cI am mg md mF ++ [(qo, .inl (cL, 1, .inr (.inl fo)))]))) (hS : va_S (fun q : Nat => s.heap.size ≤ q) s.heap H locs) (hl : lv_has ls 9 [(4, .int (nI (5 * j))), (3, .ref qo), (2, .ref (am 0)), (1, .ref (a 0)), (0, .ref b)]) (K0 : ∀ (fo : Nat → Int64) (g : Nat → Int32) (d : Nat → UInt64) (F : Nat → Nat → Int32) (mg : Nat → Int32) (md : Nat → UInt64) (mF : Nat → Nat → Int32) (H : Heap) (locs : List Loc) (ls : Array Slot), LI g d → MI mg md mF → RR g F mg mF → va_P D vwCl (cw cI a g d F ++ (mw cI am mg md mF ++ [(qo, .inl (cL, 1, .inr (.inl fo)))])) H → va_D (fun q : Nat => s.heap.size ≤ q) (cw cI a g d F ++ (mw cI am mg md mF ++ [(qo, .inl (cL, 1, .inr (.inl fo)))])) → va_S (fun q : Nat => s.heap.size ≤ q) s.heap H locs → lv_has ls 9 [(4, .int (nI (5 * j))), (3, .ref qo), (2, .ref (am 0)), (1, .ref (a 0)), (0, .ref b)] → W p l e room_1 s m #[Value.ref b] below meth c H locs (20 + (j + 1)) (248 + 6 * (j + 1)) (lw_Z below #[Value.ref b] s) (F0 m 698 ls [])) : W p l e room_1 s m #[Value.ref b] below meth c H locs (20 + j) (248 + 6 * j) (lw_Z below #[Value.ref b] s) (F0 m 602 ls []) := by
  obtain ⟨hx, hb, hr, hml, hown, hts, hX, hbl, hlocks, hgv⟩ := C0
  have hts := fun w h => hts w (wsL_law_in w h)
  have hK := hKL.1
  have hA : ∀ q : Nat, s.heap.size ≤ q → (fun q : Nat => s.heap.size ≤ q) q := fun _ h => h
  have hbA : ¬ (fun q : Nat => s.heap.size ≤ q) b := Nat.not_le.mpr hbl
  refine lv_aload_n hx hb dL_law_602 rfl (lv_at hl 3 rfl) ?_
  refine lv_aload_n hx hb dL_law_603 rfl (lv_at hl 1 rfl) ?_
  refine gc_swz (mc := 1) (ms := 6) (As := [.ref (a 0), .ref qo]) (rest := []) (w0 := cw cI a g d F ++ (mw cI am mg md mF ++ ([(qo, .inl (cL, 1, .inr (.inl fo)))]))) (wc := cw cI a g d F ++ [(qo, .inl (cL, 1, .inr (.inl fo)))]) (wr := mw cI am mg md mF) (wf := fun (u : SS × (Nat → Int64)) => wfC cI a u.1 ++ [(qo, .inl (cL, 1, .inr (.inl u.2)))]) ⟨hx, hb, hml, hown, hts⟩ hKL (KLX_ok D cI cL) hZ hP hD hS hA [0, 1, 2, 3, 4, 5, 6, 7, 8, 9, 10, 11, 19] [12, 13, 14, 15, 16, 17, 18] rfl rfl (by decide) (x_L_call l hst D cI cL a qo fo _ g d F hLI.1 hLI.2.2) (vx_cwSW 2 hts gL_law_L_call rfl rfl rfl (by decide +kernel) ⟨Nat.le_of_ble_eq_true rfl, Nat.le_of_ble_eq_true rfl⟩) rfl hl.1 rfl (Nat.le_of_ble_eq_true rfl) dL_law_604 ⟨(show 20 + j + 1 ≤ 660837 from by omega), (show 248 + 6 * j + 6 ≤ 7113592 from by omega)⟩ (fun r72 u72 H locs hw72 hP hD hS => ?_)
  obtain ⟨⟨g72, d72, F72⟩, f72⟩ := u72
  have hP : va_P D vwCl (mw cI am mg md mF ++ (cw cI a g72 d72 F72 ++ ([(qo, .inl (cL, 1, .inr (.inl f72)))]))) H := hP
  have hD : va_D (fun q : Nat => s.heap.size ≤ q) (mw cI am mg md mF ++ (cw cI a g72 d72 F72 ++ ([(qo, .inl (cL, 1, .inr (.inl f72)))]))) := hD
  refine W.widen (k := 20 + (j + 1)) (n := 248 + 6 * (j + 1)) (by omega) (by omega) ?_
  refine lv_istore (lv' := [(5, .int r72), (4, .int ((nI (5 * j)))), (3, .ref qo), (2, .ref ((am 0))), (1, .ref ((a 0))), (0, .ref b)]) hx hb dL_law_607 hl (by decide) rfl (fun ls hl => ?_)
  refine lv_aload_n hx hb dL_law_609 rfl (lv_at hl 3 rfl) ?_
  refine gc_vi (mc := 0) (ms := 0) (As := []) (rest := []) (w0 := mw cI am mg md mF ++ (cw cI a g72 d72 F72 ++ ([(qo, .inl (cL, 1, .inr (.inl f72)))]))) (wc := mw cI am mg md mF) (wr := cw cI a g72 d72 F72 ++ ([(qo, .inl (cL, 1, .inr (.inl f72)))])) (wf := wfM cI am) ⟨hx, hb, hml, hown, hts⟩ (KLX_M hKL) (KM_ok D cI) hP hD hS hA [0, 1, 2, 3, 4, 5, 6] [7, 8, 9, 10, 11, 12, 13, 14, 15, 16, 17, 18, 19] rfl rfl (by decide) (s_X7_call l D cI am _ mg md mF hMI) (cwV 0 hts gL_law_X7_call rfl rfl rfl (by decide +kernel) ⟨Nat.le_of_ble_eq_true rfl, Nat.le_of_ble_eq_true rfl⟩) (va_recv hK hP (ci := 7) (q0 := 0) rfl rfl) rfl hl.1 rfl (Nat.le_of_ble_eq_true rfl) dL_law_610 ⟨(show 20 + (j + 1) + 0 ≤ 660837 from by omega), (show 248 + 6 * (j + 1) + 0 ≤ 7113592 from by omega)⟩ (fun r73 u73 H locs hw73 hP hD hS => ?_)
  obtain ⟨mg73, md73, mF73⟩ := u73
  have hP : va_P D vwCl (cw cI a g72 d72 F72 ++ ([(qo, .inl (cL, 1, .inr (.inl f72)))] ++ (mw cI am mg73 md73 mF73))) H := hP
  have hD : va_D (fun q : Nat => s.heap.size ≤ q) (cw cI a g72 d72 F72 ++ ([(qo, .inl (cL, 1, .inr (.inl f72)))] ++ (mw cI am mg73 md73 mF73))) := hD
  refine W.widen (k := 20 + (j + 1)) (n := 248 + 6 * (j + 1)) (by omega) (by omega) ?_
  refine lv_istore (lv' := [(6, .int r73), (5, .int r72), (4, .int ((nI (5 * j)))), (3, .ref qo), (2, .ref ((am 0))), (1, .ref ((a 0))), (0, .ref b)]) hx hb dL_law_613 hl (by decide) rfl (fun ls hl => ?_)
  refine lv_goto (tgt := 698) hx hb dL_law_615 (by decide) ?_
  refine W.widen (k := 20 + (j + 1)) (n := 248 + 6 * (j + 1)) (by omega) (by omega) ?_
  exact K0 f72 g72 d72 F72 mg73 md73 mF73 H locs ls (LI_cp hLI hw72.2) hw73.2.1 trivial (hP.sub [0, 1, 2, 3, 4, 5, 6, 7, 8, 9, 10, 11, 13, 14, 15, 16, 17, 18, 19, 12] rfl) (hD.sub [0, 1, 2, 3, 4, 5, 6, 7, 8, 9, 10, 11, 13, 14, 15, 16, 17, 18, 19, 12] (by decide) rfl) hS (lv_sub hl [2, 3, 4, 5, 6] rfl)
set_option maxHeartbeats 4000000 in
set_option maxRecDepth 100000 in
theorem law_case13 {p : Program} {l : Launch} {e : Env} {s : State} {m : MethodId} {below : List Frame} {meth : Method} {c : Code} {b L : Nat} {xs : Nat → Int32} (hst : l.stackTraces = false) (hL : L ≤ 2560) (C0 : lw_At p s m meth c b L xs) {D : va_G} {cI cL : ClassId} (hKL : KLX D cI cL s) (hZ : ZZ (fun q : Nat => s.heap.size ≤ q) s s.heap) {j : Nat} (hj : 5 * j + 5 ≤ L) {a am : Nat → Nat} {qo : Nat} {fo : Nat → Int64} {g : Nat → Int32} {d : Nat → UInt64} {F : Nat → Nat → Int32} {mg : Nat → Int32} {md : Nat → UInt64} {mF : Nat → Nat → Int32} {H : Heap} {locs : List Loc} {ls : Array Slot} (hLI : LI g d) (hMI : MI mg md mF) (hRR : RR g F mg mF) (hP : va_P D vwCl (cw cI a g d F ++ (mw cI am mg md mF ++ [(qo, .inl (cL, 1, .inr (.inl fo)))])) H) (hD : va_D (fun q : Nat => s.heap.size ≤ q) (cw cI a g d F ++ (mw cI am mg md mF ++ [(qo, .inl (cL, 1, .inr (.inl fo)))]))) (hS : va_S (fun q : Nat => s.heap.size ≤ q) s.heap H locs) (hl : lv_has ls 9 [(4, .int (nI (5 * j))), (3, .ref qo), (2, .ref (am 0)), (1, .ref (a 0)), (0, .ref b)]) (K0 : ∀ (fo : Nat → Int64) (g : Nat → Int32) (d : Nat → UInt64) (F : Nat → Nat → Int32) (mg : Nat → Int32) (md : Nat → UInt64) (mF : Nat → Nat → Int32) (H : Heap) (locs : List Loc) (ls : Array Slot), LI g d → MI mg md mF → RR g F mg mF → va_P D vwCl (cw cI a g d F ++ (mw cI am mg md mF ++ [(qo, .inl (cL, 1, .inr (.inl fo)))])) H → va_D (fun q : Nat => s.heap.size ≤ q) (cw cI a g d F ++ (mw cI am mg md mF ++ [(qo, .inl (cL, 1, .inr (.inl fo)))])) → va_S (fun q : Nat => s.heap.size ≤ q) s.heap H locs → lv_has ls 9 [(4, .int (nI (5 * j))), (3, .ref qo), (2, .ref (am 0)), (1, .ref (a 0)), (0, .ref b)] → W p l e room_1 s m #[Value.ref b] below meth c H locs (20 + (j + 1)) (248 + 6 * (j + 1)) (lw_Z below #[Value.ref b] s) (F0 m 698 ls [])) : W p l e room_1 s m #[Value.ref b] below meth c H locs (20 + j) (248 + 6 * j) (lw_Z below #[Value.ref b] s) (F0 m 618 ls []) := by
  obtain ⟨hx, hb, hr, hml, hown, hts, hX, hbl, hlocks, hgv⟩ := C0
  have hts := fun w h => hts w (wsL_law_in w h)
  have hK := hKL.1
  have hA : ∀ q : Nat, s.heap.size ≤ q → (fun q : Nat => s.heap.size ≤ q) q := fun _ h => h
  have hbA : ¬ (fun q : Nat => s.heap.size ≤ q) b := Nat.not_le.mpr hbl
  refine lv_aload_n hx hb dL_law_618 rfl (lv_at hl 3 rfl) ?_
  refine gc_vd (mc := 0) (ms := 0) (As := []) (rest := []) (w0 := cw cI a g d F ++ (mw cI am mg md mF ++ ([(qo, .inl (cL, 1, .inr (.inl fo)))]))) (wc := cw cI a g d F) (wr := mw cI am mg md mF ++ ([(qo, .inl (cL, 1, .inr (.inl fo)))])) (wf := wfC cI a) ⟨hx, hb, hml, hown, hts⟩ (KLX_C hKL) (KC_ok D cI) hP hD hS hA [0, 1, 2, 3, 4, 5, 6, 7, 8, 9, 10, 11] [12, 13, 14, 15, 16, 17, 18, 19] rfl rfl (by decide) (s_X6_failing l D cI a _ g d F hLI.1) (cwV 0 hts gL_law_X6_failing rfl rfl rfl (by decide +kernel) ⟨Nat.le_of_ble_eq_true rfl, Nat.le_of_ble_eq_true rfl⟩) (va_recv hK hP (ci := 6) (q0 := 0) rfl rfl) rfl hl.1 rfl (Nat.le_of_ble_eq_true rfl) dL_law_619 ⟨(show 20 + j + 0 ≤ 660837 from by omega), (show 248 + 6 * j + 0 ≤ 7113592 from by omega)⟩ (fun r74 u74 H locs hw74 hP hD hS => ?_)
  subst hw74
  have hP : va_P D vwCl (mw cI am mg md mF ++ ([(qo, .inl (cL, 1, .inr (.inl fo)))] ++ (cw cI a g d F))) H := hP
  have hD : va_D (fun q : Nat => s.heap.size ≤ q) (mw cI am mg md mF ++ ([(qo, .inl (cL, 1, .inr (.inl fo)))] ++ (cw cI a g d F))) := hD
  refine W.widen (k := 20 + j) (n := 248 + 6 * j) (by omega) (by omega) ?_
  refine lv_dstore (lv' := [(5, .double r74), (4, .int ((nI (5 * j)))), (3, .ref qo), (2, .ref ((am 0))), (1, .ref ((a 0))), (0, .ref b)]) hx hb dL_law_622 hl (by decide) rfl (fun ls hl => ?_)
  refine lv_aload_n hx hb dL_law_624 rfl (lv_at hl 3 rfl) ?_
  refine gc_vd (mc := 0) (ms := 0) (As := []) (rest := []) (w0 := mw cI am mg md mF ++ ([(qo, .inl (cL, 1, .inr (.inl fo)))] ++ (cw cI a g d F))) (wc := mw cI am mg md mF) (wr := [(qo, .inl (cL, 1, .inr (.inl fo)))] ++ (cw cI a g d F)) (wf := wfM cI am) ⟨hx, hb, hml, hown, hts⟩ (KLX_M hKL) (KM_ok D cI) hP hD hS hA [0, 1, 2, 3, 4, 5, 6] [7, 8, 9, 10, 11, 12, 13, 14, 15, 16, 17, 18, 19] rfl rfl (by decide) (s_X7_failing l D cI am _ mg md mF hMI) (cwV 0 hts gL_law_X7_failing rfl rfl rfl (by decide +kernel) ⟨Nat.le_of_ble_eq_true rfl, Nat.le_of_ble_eq_true rfl⟩) (va_recv hK hP (ci := 7) (q0 := 0) rfl rfl) rfl hl.1 rfl (Nat.le_of_ble_eq_true rfl) dL_law_625 ⟨(show 20 + j + 0 ≤ 660837 from by omega), (show 248 + 6 * j + 0 ≤ 7113592 from by omega)⟩ (fun r75 u75 H locs hw75 hP hD hS => ?_)
  obtain ⟨mg75, md75, mF75⟩ := u75
  have hP : va_P D vwCl ([(qo, .inl (cL, 1, .inr (.inl fo)))] ++ (cw cI a g d F ++ (mw cI am mg75 md75 mF75))) H := hP
  have hD : va_D (fun q : Nat => s.heap.size ≤ q) ([(qo, .inl (cL, 1, .inr (.inl fo)))] ++ (cw cI a g d F ++ (mw cI am mg75 md75 mF75))) := hD
  refine W.widen (k := 20 + j) (n := 248 + 6 * j) (by omega) (by omega) ?_
  refine lv_dstore (lv' := [(7, .double r75), (5, .double r74), (4, .int ((nI (5 * j)))), (3, .ref qo), (2, .ref ((am 0))), (1, .ref ((a 0))), (0, .ref b)]) hx hb dL_law_628 hl (by decide) rfl (fun ls hl => ?_)
  refine lv_goto (tgt := 698) hx hb dL_law_630 (by decide) ?_
  refine W.widen (k := 20 + (j + 1)) (n := 248 + 6 * (j + 1)) (by omega) (by omega) ?_
  exact K0 fo g d F mg75 md75 mF75 H locs ls hLI hw75.2.1 trivial (hP.sub [1, 2, 3, 4, 5, 6, 7, 8, 9, 10, 11, 12, 13, 14, 15, 16, 17, 18, 19, 0] rfl) (hD.sub [1, 2, 3, 4, 5, 6, 7, 8, 9, 10, 11, 12, 13, 14, 15, 16, 17, 18, 19, 0] (by decide) rfl) hS (lv_sub hl [2, 3, 4, 5, 6] rfl)
set_option maxHeartbeats 4000000 in
set_option maxRecDepth 100000 in
theorem law_case14 {p : Program} {l : Launch} {e : Env} {s : State} {m : MethodId} {below : List Frame} {meth : Method} {c : Code} {b L : Nat} {xs : Nat → Int32} (hst : l.stackTraces = false) (hL : L ≤ 2560) (C0 : lw_At p s m meth c b L xs) {D : va_G} {cI cL : ClassId} (hKL : KLX D cI cL s) (hZ : ZZ (fun q : Nat => s.heap.size ≤ q) s s.heap) {j : Nat} (hj : 5 * j + 5 ≤ L) {a am : Nat → Nat} {qo : Nat} {fo : Nat → Int64} {g : Nat → Int32} {d : Nat → UInt64} {F : Nat → Nat → Int32} {mg : Nat → Int32} {md : Nat → UInt64} {mF : Nat → Nat → Int32} {H : Heap} {locs : List Loc} {ls : Array Slot} (hLI : LI g d) (hMI : MI mg md mF) (hRR : RR g F mg mF) (hP : va_P D vwCl (cw cI a g d F ++ (mw cI am mg md mF ++ [(qo, .inl (cL, 1, .inr (.inl fo)))])) H) (hD : va_D (fun q : Nat => s.heap.size ≤ q) (cw cI a g d F ++ (mw cI am mg md mF ++ [(qo, .inl (cL, 1, .inr (.inl fo)))]))) (hS : va_S (fun q : Nat => s.heap.size ≤ q) s.heap H locs) (hl : lv_has ls 9 [(4, .int (nI (5 * j))), (3, .ref qo), (2, .ref (am 0)), (1, .ref (a 0)), (0, .ref b)]) (K0 : ∀ (fo : Nat → Int64) (g : Nat → Int32) (d : Nat → UInt64) (F : Nat → Nat → Int32) (mg : Nat → Int32) (md : Nat → UInt64) (mF : Nat → Nat → Int32) (H : Heap) (locs : List Loc) (ls : Array Slot), LI g d → MI mg md mF → RR g F mg mF → va_P D vwCl (cw cI a g d F ++ (mw cI am mg md mF ++ [(qo, .inl (cL, 1, .inr (.inl fo)))])) H → va_D (fun q : Nat => s.heap.size ≤ q) (cw cI a g d F ++ (mw cI am mg md mF ++ [(qo, .inl (cL, 1, .inr (.inl fo)))])) → va_S (fun q : Nat => s.heap.size ≤ q) s.heap H locs → lv_has ls 9 [(4, .int (nI (5 * j))), (3, .ref qo), (2, .ref (am 0)), (1, .ref (a 0)), (0, .ref b)] → W p l e room_1 s m #[Value.ref b] below meth c H locs (20 + (j + 1)) (248 + 6 * (j + 1)) (lw_Z below #[Value.ref b] s) (F0 m 698 ls [])) : W p l e room_1 s m #[Value.ref b] below meth c H locs (20 + j) (248 + 6 * j) (lw_Z below #[Value.ref b] s) (F0 m 633 ls []) := by
  obtain ⟨hx, hb, hr, hml, hown, hts, hX, hbl, hlocks, hgv⟩ := C0
  have hts := fun w h => hts w (wsL_law_in w h)
  have hK := hKL.1
  have hA : ∀ q : Nat, s.heap.size ≤ q → (fun q : Nat => s.heap.size ≤ q) q := fun _ h => h
  have hbA : ¬ (fun q : Nat => s.heap.size ≤ q) b := Nat.not_le.mpr hbl
  refine lv_aload_n hx hb dL_law_633 rfl (lv_at hl 3 rfl) ?_
  refine gc_vd (mc := 0) (ms := 0) (As := []) (rest := []) (w0 := cw cI a g d F ++ (mw cI am mg md mF ++ ([(qo, .inl (cL, 1, .inr (.inl fo)))]))) (wc := cw cI a g d F) (wr := mw cI am mg md mF ++ ([(qo, .inl (cL, 1, .inr (.inl fo)))])) (wf := wfC cI a) ⟨hx, hb, hml, hown, hts⟩ (KLX_C hKL) (KC_ok D cI) hP hD hS hA [0, 1, 2, 3, 4, 5, 6, 7, 8, 9, 10, 11] [12, 13, 14, 15, 16, 17, 18, 19] rfl rfl (by decide) (s_X6_sluggish l D cI a _ g d F hLI.1) (cwV 0 hts gL_law_X6_sluggish rfl rfl rfl (by decide +kernel) ⟨Nat.le_of_ble_eq_true rfl, Nat.le_of_ble_eq_true rfl⟩) (va_recv hK hP (ci := 6) (q0 := 0) rfl rfl) rfl hl.1 rfl (Nat.le_of_ble_eq_true rfl) dL_law_634 ⟨(show 20 + j + 0 ≤ 660837 from by omega), (show 248 + 6 * j + 0 ≤ 7113592 from by omega)⟩ (fun r76 u76 H locs hw76 hP hD hS => ?_)
  subst hw76
  have hP : va_P D vwCl (mw cI am mg md mF ++ ([(qo, .inl (cL, 1, .inr (.inl fo)))] ++ (cw cI a g d F))) H := hP
  have hD : va_D (fun q : Nat => s.heap.size ≤ q) (mw cI am mg md mF ++ ([(qo, .inl (cL, 1, .inr (.inl fo)))] ++ (cw cI a g d F))) := hD
  refine W.widen (k := 20 + j) (n := 248 + 6 * j) (by omega) (by omega) ?_
  refine lv_dstore (lv' := [(5, .double r76), (4, .int ((nI (5 * j)))), (3, .ref qo), (2, .ref ((am 0))), (1, .ref ((a 0))), (0, .ref b)]) hx hb dL_law_637 hl (by decide) rfl (fun ls hl => ?_)
  refine lv_aload_n hx hb dL_law_639 rfl (lv_at hl 3 rfl) ?_
  refine gc_vd (mc := 0) (ms := 0) (As := []) (rest := []) (w0 := mw cI am mg md mF ++ ([(qo, .inl (cL, 1, .inr (.inl fo)))] ++ (cw cI a g d F))) (wc := mw cI am mg md mF) (wr := [(qo, .inl (cL, 1, .inr (.inl fo)))] ++ (cw cI a g d F)) (wf := wfM cI am) ⟨hx, hb, hml, hown, hts⟩ (KLX_M hKL) (KM_ok D cI) hP hD hS hA [0, 1, 2, 3, 4, 5, 6] [7, 8, 9, 10, 11, 12, 13, 14, 15, 16, 17, 18, 19] rfl rfl (by decide) (s_X7_sluggish l D cI am _ mg md mF hMI) (cwV 0 hts gL_law_X7_sluggish rfl rfl rfl (by decide +kernel) ⟨Nat.le_of_ble_eq_true rfl, Nat.le_of_ble_eq_true rfl⟩) (va_recv hK hP (ci := 7) (q0 := 0) rfl rfl) rfl hl.1 rfl (Nat.le_of_ble_eq_true rfl) dL_law_640 ⟨(show 20 + j + 0 ≤ 660837 from by omega), (show 248 + 6 * j + 0 ≤ 7113592 from by omega)⟩ (fun r77 u77 H locs hw77 hP hD hS => ?_)
  obtain ⟨mg77, md77, mF77⟩ := u77
  have hP : va_P D vwCl ([(qo, .inl (cL, 1, .inr (.inl fo)))] ++ (cw cI a g d F ++ (mw cI am mg77 md77 mF77))) H := hP
  have hD : va_D (fun q : Nat => s.heap.size ≤ q) ([(qo, .inl (cL, 1, .inr (.inl fo)))] ++ (cw cI a g d F ++ (mw cI am mg77 md77 mF77))) := hD
  refine W.widen (k := 20 + j) (n := 248 + 6 * j) (by omega) (by omega) ?_
  refine lv_dstore (lv' := [(7, .double r77), (5, .double r76), (4, .int ((nI (5 * j)))), (3, .ref qo), (2, .ref ((am 0))), (1, .ref ((a 0))), (0, .ref b)]) hx hb dL_law_643 hl (by decide) rfl (fun ls hl => ?_)
  refine lv_goto (tgt := 698) hx hb dL_law_645 (by decide) ?_
  refine W.widen (k := 20 + (j + 1)) (n := 248 + 6 * (j + 1)) (by omega) (by omega) ?_
  exact K0 fo g d F mg77 md77 mF77 H locs ls hLI hw77.2.1 trivial (hP.sub [1, 2, 3, 4, 5, 6, 7, 8, 9, 10, 11, 12, 13, 14, 15, 16, 17, 18, 19, 0] rfl) (hD.sub [1, 2, 3, 4, 5, 6, 7, 8, 9, 10, 11, 12, 13, 14, 15, 16, 17, 18, 19, 0] (by decide) rfl) hS (lv_sub hl [2, 3, 4, 5, 6] rfl)
set_option maxHeartbeats 4000000 in
set_option maxRecDepth 100000 in
theorem law_case15 {p : Program} {l : Launch} {e : Env} {s : State} {m : MethodId} {below : List Frame} {meth : Method} {c : Code} {b L : Nat} {xs : Nat → Int32} (hst : l.stackTraces = false) (hL : L ≤ 2560) (C0 : lw_At p s m meth c b L xs) {D : va_G} {cI cL : ClassId} (hKL : KLX D cI cL s) (hZ : ZZ (fun q : Nat => s.heap.size ≤ q) s s.heap) {j : Nat} (hj : 5 * j + 5 ≤ L) {a am : Nat → Nat} {qo : Nat} {fo : Nat → Int64} {g : Nat → Int32} {d : Nat → UInt64} {F : Nat → Nat → Int32} {mg : Nat → Int32} {md : Nat → UInt64} {mF : Nat → Nat → Int32} {H : Heap} {locs : List Loc} {ls : Array Slot} (hLI : LI g d) (hMI : MI mg md mF) (hRR : RR g F mg mF) (hP : va_P D vwCl (cw cI a g d F ++ (mw cI am mg md mF ++ [(qo, .inl (cL, 1, .inr (.inl fo)))])) H) (hD : va_D (fun q : Nat => s.heap.size ≤ q) (cw cI a g d F ++ (mw cI am mg md mF ++ [(qo, .inl (cL, 1, .inr (.inl fo)))]))) (hS : va_S (fun q : Nat => s.heap.size ≤ q) s.heap H locs) (hl : lv_has ls 9 [(4, .int (nI (5 * j))), (3, .ref qo), (2, .ref (am 0)), (1, .ref (a 0)), (0, .ref b)]) (K0 : ∀ (fo : Nat → Int64) (g : Nat → Int32) (d : Nat → UInt64) (F : Nat → Nat → Int32) (mg : Nat → Int32) (md : Nat → UInt64) (mF : Nat → Nat → Int32) (H : Heap) (locs : List Loc) (ls : Array Slot), LI g d → MI mg md mF → RR g F mg mF → va_P D vwCl (cw cI a g d F ++ (mw cI am mg md mF ++ [(qo, .inl (cL, 1, .inr (.inl fo)))])) H → va_D (fun q : Nat => s.heap.size ≤ q) (cw cI a g d F ++ (mw cI am mg md mF ++ [(qo, .inl (cL, 1, .inr (.inl fo)))])) → va_S (fun q : Nat => s.heap.size ≤ q) s.heap H locs → lv_has ls 9 [(4, .int (nI (5 * j))), (3, .ref qo), (2, .ref (am 0)), (1, .ref (a 0)), (0, .ref b)] → W p l e room_1 s m #[Value.ref b] below meth c H locs (20 + (j + 1)) (248 + 6 * (j + 1)) (lw_Z below #[Value.ref b] s) (F0 m 698 ls [])) : W p l e room_1 s m #[Value.ref b] below meth c H locs (20 + j) (248 + 6 * j) (lw_Z below #[Value.ref b] s) (F0 m 648 ls []) := by
  obtain ⟨hx, hb, hr, hml, hown, hts, hX, hbl, hlocks, hgv⟩ := C0
  have hts := fun w h => hts w (wsL_law_in w h)
  have hK := hKL.1
  have hA : ∀ q : Nat, s.heap.size ≤ q → (fun q : Nat => s.heap.size ≤ q) q := fun _ h => h
  have hbA : ¬ (fun q : Nat => s.heap.size ≤ q) b := Nat.not_le.mpr hbl
  refine lv_aload_n hx hb dL_law_648 rfl (lv_at hl 3 rfl) ?_
  refine lv_aload_n hx hb dL_law_649 rfl (lv_at hl 4 rfl) ?_
  refine lv_iload hx hb dL_law_650 (lv_at hl 0 rfl) ?_
  refine lv_iconst (v := 1) hx hb dL_law_652 (by decide) ?_
  refine lv_iadd hx hb dL_law_653 ?_
  refine lv_topi (fun x78 e78 => ?_)
  obtain rfl : x78 = nI (5 * j + 1) := e78.trans sx
  refine va_sld hx hb hX hbl hbA hS (sx_in (k := 1) hj hL (by decide)) dL_law_654 ?_
  refine gc_vi (mc := 0) (ms := 0) (As := [.int ((xs (nI (5 * j + 1)).toNatClampNeg))]) (rest := []) (w0 := cw cI a g d F ++ (mw cI am mg md mF ++ ([(qo, .inl (cL, 1, .inr (.inl fo)))]))) (wc := cw cI a g d F) (wr := mw cI am mg md mF ++ ([(qo, .inl (cL, 1, .inr (.inl fo)))])) (wf := wfC cI a) ⟨hx, hb, hml, hown, hts⟩ (KLX_C hKL) (KC_ok D cI) hP hD hS hA [0, 1, 2, 3, 4, 5, 6, 7, 8, 9, 10, 11] [12, 13, 14, 15, 16, 17, 18, 19] rfl rfl (by decide) (s_X6_tell l D cI a _ g d F ((xs (nI (5 * j + 1)).toNatClampNeg))) (cwV 1 hts gL_law_X6_tell rfl rfl rfl (by decide +kernel) ⟨Nat.le_of_ble_eq_true rfl, Nat.le_of_ble_eq_true rfl⟩) (va_recv hK hP (ci := 6) (q0 := 0) rfl rfl) rfl hl.1 rfl (Nat.le_of_ble_eq_true rfl) dL_law_655 ⟨(show 20 + j + 0 ≤ 660837 from by omega), (show 248 + 6 * j + 0 ≤ 7113592 from by omega)⟩ (fun r79 u79 H locs hw79 hP hD hS => ?_)
  subst hw79
  have hP : va_P D vwCl (mw cI am mg md mF ++ ([(qo, .inl (cL, 1, .inr (.inl fo)))] ++ (cw cI a g d F))) H := hP
  have hD : va_D (fun q : Nat => s.heap.size ≤ q) (mw cI am mg md mF ++ ([(qo, .inl (cL, 1, .inr (.inl fo)))] ++ (cw cI a g d F))) := hD
  refine W.widen (k := 20 + j) (n := 248 + 6 * j) (by omega) (by omega) ?_
  refine lv_pop hx hb dL_law_658 rfl ?_
  refine lv_aload_n hx hb dL_law_659 rfl (lv_at hl 2 rfl) ?_
  refine lv_aload_n hx hb dL_law_660 rfl (lv_at hl 4 rfl) ?_
  refine lv_iload hx hb dL_law_661 (lv_at hl 0 rfl) ?_
  refine lv_iconst (v := 1) hx hb dL_law_663 (by decide) ?_
  refine lv_iadd hx hb dL_law_664 ?_
  refine lv_topi (fun x80 e80 => ?_)
  obtain rfl : x80 = nI (5 * j + 1) := e80.trans sx
  refine va_sld hx hb hX hbl hbA hS (sx_in (k := 1) hj hL (by decide)) dL_law_665 ?_
  refine gc_vi (mc := 0) (ms := 0) (As := [.int ((xs (nI (5 * j + 1)).toNatClampNeg))]) (rest := []) (w0 := mw cI am mg md mF ++ ([(qo, .inl (cL, 1, .inr (.inl fo)))] ++ (cw cI a g d F))) (wc := mw cI am mg md mF) (wr := [(qo, .inl (cL, 1, .inr (.inl fo)))] ++ (cw cI a g d F)) (wf := wfM cI am) ⟨hx, hb, hml, hown, hts⟩ (KLX_M hKL) (KM_ok D cI) hP hD hS hA [0, 1, 2, 3, 4, 5, 6] [7, 8, 9, 10, 11, 12, 13, 14, 15, 16, 17, 18, 19] rfl rfl (by decide) (s_X7_tell l D cI am _ mg md mF ((xs (nI (5 * j + 1)).toNatClampNeg)) hMI) (cwV 1 hts gL_law_X7_tell rfl rfl rfl (by decide +kernel) ⟨Nat.le_of_ble_eq_true rfl, Nat.le_of_ble_eq_true rfl⟩) (va_recv hK hP (ci := 7) (q0 := 0) rfl rfl) rfl hl.1 rfl (Nat.le_of_ble_eq_true rfl) dL_law_666 ⟨(show 20 + j + 0 ≤ 660837 from by omega), (show 248 + 6 * j + 0 ≤ 7113592 from by omega)⟩ (fun r81 u81 H locs hw81 hP hD hS => ?_)
  obtain ⟨mg81, md81, mF81⟩ := u81
  have hP : va_P D vwCl ([(qo, .inl (cL, 1, .inr (.inl fo)))] ++ (cw cI a g d F ++ (mw cI am mg81 md81 mF81))) H := hP
  have hD : va_D (fun q : Nat => s.heap.size ≤ q) ([(qo, .inl (cL, 1, .inr (.inl fo)))] ++ (cw cI a g d F ++ (mw cI am mg81 md81 mF81))) := hD
  refine W.widen (k := 20 + j) (n := 248 + 6 * j) (by omega) (by omega) ?_
  refine lv_pop hx hb dL_law_669 rfl ?_
  refine lv_goto (tgt := 698) hx hb dL_law_670 (by decide) ?_
  refine W.widen (k := 20 + (j + 1)) (n := 248 + 6 * (j + 1)) (by omega) (by omega) ?_
  exact K0 fo g d F mg81 md81 mF81 H locs ls hLI hw81.2.1 trivial (hP.sub [1, 2, 3, 4, 5, 6, 7, 8, 9, 10, 11, 12, 13, 14, 15, 16, 17, 18, 19, 0] rfl) (hD.sub [1, 2, 3, 4, 5, 6, 7, 8, 9, 10, 11, 12, 13, 14, 15, 16, 17, 18, 19, 0] (by decide) rfl) hS (lv_sub hl [0, 1, 2, 3, 4] rfl)
set_option maxHeartbeats 4000000 in
set_option maxRecDepth 100000 in
theorem law_case16 {p : Program} {l : Launch} {e : Env} {s : State} {m : MethodId} {below : List Frame} {meth : Method} {c : Code} {b L : Nat} {xs : Nat → Int32} (hst : l.stackTraces = false) (hL : L ≤ 2560) (C0 : lw_At p s m meth c b L xs) {D : va_G} {cI cL : ClassId} (hKL : KLX D cI cL s) (hZ : ZZ (fun q : Nat => s.heap.size ≤ q) s s.heap) {j : Nat} (hj : 5 * j + 5 ≤ L) {a am : Nat → Nat} {qo : Nat} {fo : Nat → Int64} {g : Nat → Int32} {d : Nat → UInt64} {F : Nat → Nat → Int32} {mg : Nat → Int32} {md : Nat → UInt64} {mF : Nat → Nat → Int32} {H : Heap} {locs : List Loc} {ls : Array Slot} (hLI : LI g d) (hMI : MI mg md mF) (hRR : RR g F mg mF) (hP : va_P D vwCl (cw cI a g d F ++ (mw cI am mg md mF ++ [(qo, .inl (cL, 1, .inr (.inl fo)))])) H) (hD : va_D (fun q : Nat => s.heap.size ≤ q) (cw cI a g d F ++ (mw cI am mg md mF ++ [(qo, .inl (cL, 1, .inr (.inl fo)))]))) (hS : va_S (fun q : Nat => s.heap.size ≤ q) s.heap H locs) (hl : lv_has ls 9 [(4, .int (nI (5 * j))), (3, .ref qo), (2, .ref (am 0)), (1, .ref (a 0)), (0, .ref b)]) (K0 : ∀ (fo : Nat → Int64) (g : Nat → Int32) (d : Nat → UInt64) (F : Nat → Nat → Int32) (mg : Nat → Int32) (md : Nat → UInt64) (mF : Nat → Nat → Int32) (H : Heap) (locs : List Loc) (ls : Array Slot), LI g d → MI mg md mF → RR g F mg mF → va_P D vwCl (cw cI a g d F ++ (mw cI am mg md mF ++ [(qo, .inl (cL, 1, .inr (.inl fo)))])) H → va_D (fun q : Nat => s.heap.size ≤ q) (cw cI a g d F ++ (mw cI am mg md mF ++ [(qo, .inl (cL, 1, .inr (.inl fo)))])) → va_S (fun q : Nat => s.heap.size ≤ q) s.heap H locs → lv_has ls 9 [(4, .int (nI (5 * j))), (3, .ref qo), (2, .ref (am 0)), (1, .ref (a 0)), (0, .ref b)] → W p l e room_1 s m #[Value.ref b] below meth c H locs (20 + (j + 1)) (248 + 6 * (j + 1)) (lw_Z below #[Value.ref b] s) (F0 m 698 ls [])) : W p l e room_1 s m #[Value.ref b] below meth c H locs (20 + j) (248 + 6 * j) (lw_Z below #[Value.ref b] s) (F0 m 673 ls []) := by
  obtain ⟨hx, hb, hr, hml, hown, hts, hX, hbl, hlocks, hgv⟩ := C0
  have hts := fun w h => hts w (wsL_law_in w h)
  have hK := hKL.1
  have hA : ∀ q : Nat, s.heap.size ≤ q → (fun q : Nat => s.heap.size ≤ q) q := fun _ h => h
  have hbA : ¬ (fun q : Nat => s.heap.size ≤ q) b := Nat.not_le.mpr hbl
  refine lv_aload_n hx hb dL_law_673 rfl (lv_at hl 3 rfl) ?_
  refine lv_aload_n hx hb dL_law_674 rfl (lv_at hl 4 rfl) ?_
  refine lv_iload hx hb dL_law_675 (lv_at hl 0 rfl) ?_
  refine lv_iconst (v := 1) hx hb dL_law_677 (by decide) ?_
  refine lv_iadd hx hb dL_law_678 ?_
  refine lv_topi (fun x82 e82 => ?_)
  obtain rfl : x82 = nI (5 * j + 1) := e82.trans sx
  refine va_sld hx hb hX hbl hbA hS (sx_in (k := 1) hj hL (by decide)) dL_law_679 ?_
  refine gc_vi (mc := 0) (ms := 0) (As := [.int ((xs (nI (5 * j + 1)).toNatClampNeg))]) (rest := []) (w0 := cw cI a g d F ++ (mw cI am mg md mF ++ ([(qo, .inl (cL, 1, .inr (.inl fo)))]))) (wc := cw cI a g d F) (wr := mw cI am mg md mF ++ ([(qo, .inl (cL, 1, .inr (.inl fo)))])) (wf := wfC cI a) ⟨hx, hb, hml, hown, hts⟩ (KLX_C hKL) (KC_ok D cI) hP hD hS hA [0, 1, 2, 3, 4, 5, 6, 7, 8, 9, 10, 11] [12, 13, 14, 15, 16, 17, 18, 19] rfl rfl (by decide) (s_X6_event l D cI a _ g d F ((xs (nI (5 * j + 1)).toNatClampNeg)) hLI.1) (cwV 1 hts gL_law_X6_event rfl rfl rfl (by decide +kernel) ⟨Nat.le_of_ble_eq_true rfl, Nat.le_of_ble_eq_true rfl⟩) (va_recv hK hP (ci := 6) (q0 := 0) rfl rfl) rfl hl.1 rfl (Nat.le_of_ble_eq_true rfl) dL_law_680 ⟨(show 20 + j + 0 ≤ 660837 from by omega), (show 248 + 6 * j + 0 ≤ 7113592 from by omega)⟩ (fun r83 u83 H locs hw83 hP hD hS => ?_)
  subst hw83
  have hP : va_P D vwCl (mw cI am mg md mF ++ ([(qo, .inl (cL, 1, .inr (.inl fo)))] ++ (cw cI a g d F))) H := hP
  have hD : va_D (fun q : Nat => s.heap.size ≤ q) (mw cI am mg md mF ++ ([(qo, .inl (cL, 1, .inr (.inl fo)))] ++ (cw cI a g d F))) := hD
  refine W.widen (k := 20 + j) (n := 248 + 6 * j) (by omega) (by omega) ?_
  refine lv_pop hx hb dL_law_683 rfl ?_
  refine lv_aload_n hx hb dL_law_684 rfl (lv_at hl 2 rfl) ?_
  refine lv_aload_n hx hb dL_law_685 rfl (lv_at hl 4 rfl) ?_
  refine lv_iload hx hb dL_law_686 (lv_at hl 0 rfl) ?_
  refine lv_iconst (v := 1) hx hb dL_law_688 (by decide) ?_
  refine lv_iadd hx hb dL_law_689 ?_
  refine lv_topi (fun x84 e84 => ?_)
  obtain rfl : x84 = nI (5 * j + 1) := e84.trans sx
  refine va_sld hx hb hX hbl hbA hS (sx_in (k := 1) hj hL (by decide)) dL_law_690 ?_
  refine gc_vi (mc := 0) (ms := 0) (As := [.int ((xs (nI (5 * j + 1)).toNatClampNeg))]) (rest := []) (w0 := mw cI am mg md mF ++ ([(qo, .inl (cL, 1, .inr (.inl fo)))] ++ (cw cI a g d F))) (wc := mw cI am mg md mF) (wr := [(qo, .inl (cL, 1, .inr (.inl fo)))] ++ (cw cI a g d F)) (wf := wfM cI am) ⟨hx, hb, hml, hown, hts⟩ (KLX_M hKL) (KM_ok D cI) hP hD hS hA [0, 1, 2, 3, 4, 5, 6] [7, 8, 9, 10, 11, 12, 13, 14, 15, 16, 17, 18, 19] rfl rfl (by decide) (s_X7_event l D cI am _ mg md mF ((xs (nI (5 * j + 1)).toNatClampNeg)) hMI) (cwV 1 hts gL_law_X7_event rfl rfl rfl (by decide +kernel) ⟨Nat.le_of_ble_eq_true rfl, Nat.le_of_ble_eq_true rfl⟩) (va_recv hK hP (ci := 7) (q0 := 0) rfl rfl) rfl hl.1 rfl (Nat.le_of_ble_eq_true rfl) dL_law_691 ⟨(show 20 + j + 0 ≤ 660837 from by omega), (show 248 + 6 * j + 0 ≤ 7113592 from by omega)⟩ (fun r85 u85 H locs hw85 hP hD hS => ?_)
  obtain ⟨mg85, md85, mF85⟩ := u85
  have hP : va_P D vwCl ([(qo, .inl (cL, 1, .inr (.inl fo)))] ++ (cw cI a g d F ++ (mw cI am mg85 md85 mF85))) H := hP
  have hD : va_D (fun q : Nat => s.heap.size ≤ q) ([(qo, .inl (cL, 1, .inr (.inl fo)))] ++ (cw cI a g d F ++ (mw cI am mg85 md85 mF85))) := hD
  refine W.widen (k := 20 + j) (n := 248 + 6 * j) (by omega) (by omega) ?_
  refine lv_pop hx hb dL_law_694 rfl ?_
  refine lv_goto (tgt := 698) hx hb dL_law_695 (by decide) ?_
  refine W.widen (k := 20 + (j + 1)) (n := 248 + 6 * (j + 1)) (by omega) (by omega) ?_
  exact K0 fo g d F mg85 md85 mF85 H locs ls hLI hw85.2.1 trivial (hP.sub [1, 2, 3, 4, 5, 6, 7, 8, 9, 10, 11, 12, 13, 14, 15, 16, 17, 18, 19, 0] rfl) (hD.sub [1, 2, 3, 4, 5, 6, 7, 8, 9, 10, 11, 12, 13, 14, 15, 16, 17, 18, 19, 0] (by decide) rfl) hS (lv_sub hl [0, 1, 2, 3, 4] rfl)
