/-! generic: a call whose callee's world is cut out of the caller's by places -/
def gOK (K : State → Prop) : Prop := (∀ s U : State, s.WarmedH U.vm → K s → K U) ∧ ∀ (a : Array Value) (U : State) (g : JFrame) (mk : MethodId), K U → K (U.calling g mk a)
def gP (K : State → Prop) (D : va_G) (w : va_W) (sz : Nat) (av : List Value) : Array Value → State → Prop := va_Pc av (fun U => U.heap.size = sz ∧ va_P D vwCl w U.heap ∧ va_D (fun _ => True) w ∧ K U)
def gB {σ : Type} (D : va_G) (wf : σ → va_W) (A : Nat → Prop) (u : σ) (t : State) : Prop := va_P D vwCl (wf u) t.heap ∧ va_D A (wf u)
theorem gP_blind {K : State → Prop} {D : va_G} {w : va_W} {sz : Nat} {av : List Value} (h : gOK K) : FrameBlind (gP K D w sz av) := fun a U g mk q => ⟨q.1, q.2.1, q.2.2.1, q.2.2.2.1, h.2 a U g mk q.2.2.2.2⟩
theorem gP_sub {D : va_G} {cl : List vw_C} {ws ws' : va_W} {H : Heap} (h : va_P D cl ws H) (is : List Nat) (hs : is.map (fun i => ws[i]?) = ws'.map some) : va_P D cl ws' H := by
  intro k q hk
  have h1 : (is.map (fun i => ws[i]?))[k]? = some (some q) := by rw [hs, List.getElem?_map, hk]; rfl
  rw [List.getElem?_map] at h1
  cases hi : is[k]? with
  | none => rw [hi] at h1; cases h1
  | some i => rw [hi] at h1; exact h i q (Option.some.inj h1)
section GC
variable {p : Program} {l : Launch} {e : Env} {R : Room} {s : State} {m : MethodId} {args : Array Value} {below : List Frame} {meth : Method} {c : Code} {H : Heap} {locs : List Loc} {cells slots : Nat} {Q : State → Prop}
variable {pc : Nat} {ls : Array Slot} {rest st0 As : List Value} {A : Nat → Prop} {H0 : Heap} {mc ms n index maxL nL : Nat} {y : MethodName} {bytes cc : ByteArray} {ret : Option FieldType} {Ts ws : List Cond} {rm : Room} {own C : String} {b : Addr} {D : va_G} {K : State → Prop} {w0 wc wr : va_W} {σ : Type} {wf : σ → va_W}
theorem gc_vi {post : Int32 → σ → Prop} (S : CallFix p m c cc nL s args Ts own) (hk : K s) (hok : gOK K) (hP : va_P D vwCl w0 H) (hD : va_D A w0) (hS : va_S A H0 H locs) (hA : ∀ q, H0.size ≤ q → A q)
    (isC isR : List Nat) (hC : isC.map (fun i => w0[i]?) = wc.map some) (hR : isR.map (fun i => w0[i]?) = wr.map some) (hnd : va_nd isC = true ∧ va_nd isR = true ∧ ∀ i ∈ isR, i ∉ isC)
    (hM : Met l y ws rm (gP K D wc H.size (.ref b :: As)) (va_Qi post (gB D wf (va_A wc H.size)) (va_A wc H.size)) mc ms (va_A wc H.size))
    (cw : CallW R s args own C index y bytes maxL ret ws rm mc ms n) (hrecv : ∃ cellB : Cell, H[b]? = some cellB ∧ cellB.vm.isStatics = false ∧ s.vm.findClass C = some cellB.cls)
    (hn : As.length = n) (hsize : ls.size = nL) (hst : st0 = As.reverse ++ .ref b :: rest) (hrm : (rest.map fun v => v.category).sum ≤ 8) (hdg : decode cc pc = .ok (.invokevirtual index, 3)) (hf : cells + mc ≤ R.cells ∧ slots + ms ≤ R.slots)
    (kk : ∀ (r : Int32) (u : σ) (H1 : Heap) (locs1 : List Loc), post r u → va_P D vwCl (wr ++ wf u) H1 → va_D A (wr ++ wf u) → va_S A H0 H1 locs1 → W p l e R s m args below meth c H1 locs1 (cells + mc) (slots + ms) Q (F0 m (pc + 3) ls (.int r :: rest))) :
    W p l e R s m args below meth c H locs cells slots Q (F0 m pc ls st0) := by
  have hFc := va_free (wc := wc) hD hS hA isC hC
  refine va_calli (va_runV (As := As) (rest := rest) S hM cw ⟨gP_blind hok, hrecv, fun U hU hW => ⟨rfl, by rw [hU], by rw [hU]; exact gP_sub hP isC hC, (hD.sub isC hnd.1 hC).weaken (fun _ _ _ _ => trivial), hok.1 s U hW hk⟩⟩ rfl hn hsize hst (lv_room hrm) hdg hf) hS (fun q _ h => hFc q h) hFc (fun r u t H1 locs1 ht hvm hw hB hz1 hk1 hS1 => ?_)
  obtain ⟨hP1, hD1⟩ := hB
  rw [ht] at hP1
  obtain ⟨hP2, hD2⟩ := va_join (wr := wr) (w1 := wf u) hP hD isC isR hC hR hnd.2.1 hnd.2.2 hk1 hFc hP1 hD1
  exact kk r u H1 locs1 hw hP2 hD2 hS1
theorem gc_vd {post : UInt64 → σ → Prop} (S : CallFix p m c cc nL s args Ts own) (hk : K s) (hok : gOK K) (hP : va_P D vwCl w0 H) (hD : va_D A w0) (hS : va_S A H0 H locs) (hA : ∀ q, H0.size ≤ q → A q)
    (isC isR : List Nat) (hC : isC.map (fun i => w0[i]?) = wc.map some) (hR : isR.map (fun i => w0[i]?) = wr.map some) (hnd : va_nd isC = true ∧ va_nd isR = true ∧ ∀ i ∈ isR, i ∉ isC)
    (hM : Met l y ws rm (gP K D wc H.size (.ref b :: As)) (va_Qd post (gB D wf (va_A wc H.size)) (va_A wc H.size)) mc ms (va_A wc H.size))
    (cw : CallW R s args own C index y bytes maxL ret ws rm mc ms n) (hrecv : ∃ cellB : Cell, H[b]? = some cellB ∧ cellB.vm.isStatics = false ∧ s.vm.findClass C = some cellB.cls)
    (hn : As.length = n) (hsize : ls.size = nL) (hst : st0 = As.reverse ++ .ref b :: rest) (hrm : (rest.map fun v => v.category).sum ≤ 8) (hdg : decode cc pc = .ok (.invokevirtual index, 3)) (hf : cells + mc ≤ R.cells ∧ slots + ms ≤ R.slots)
    (kk : ∀ (r : UInt64) (u : σ) (H1 : Heap) (locs1 : List Loc), post r u → va_P D vwCl (wr ++ wf u) H1 → va_D A (wr ++ wf u) → va_S A H0 H1 locs1 → W p l e R s m args below meth c H1 locs1 (cells + mc) (slots + ms) Q (F0 m (pc + 3) ls (.double r :: rest))) :
    W p l e R s m args below meth c H locs cells slots Q (F0 m pc ls st0) := by
  have hFc := va_free (wc := wc) hD hS hA isC hC
  refine va_calld (va_runV (As := As) (rest := rest) S hM cw ⟨gP_blind hok, hrecv, fun U hU hW => ⟨rfl, by rw [hU], by rw [hU]; exact gP_sub hP isC hC, (hD.sub isC hnd.1 hC).weaken (fun _ _ _ _ => trivial), hok.1 s U hW hk⟩⟩ rfl hn hsize hst (lv_room hrm) hdg hf) hS (fun q _ h => hFc q h) hFc (fun r u t H1 locs1 ht hvm hw hB hz1 hk1 hS1 => ?_)
  obtain ⟨hP1, hD1⟩ := hB
  rw [ht] at hP1
  obtain ⟨hP2, hD2⟩ := va_join (wr := wr) (w1 := wf u) hP hD isC isR hC hR hnd.2.1 hnd.2.2 hk1 hFc hP1 hD1
  exact kk r u H1 locs1 hw hP2 hD2 hS1
theorem gc_vv {post : σ → Prop} (S : CallFix p m c cc nL s args Ts own) (hk : K s) (hok : gOK K) (hP : va_P D vwCl w0 H) (hD : va_D A w0) (hS : va_S A H0 H locs) (hA : ∀ q, H0.size ≤ q → A q)
    (isC isR : List Nat) (hC : isC.map (fun i => w0[i]?) = wc.map some) (hR : isR.map (fun i => w0[i]?) = wr.map some) (hnd : va_nd isC = true ∧ va_nd isR = true ∧ ∀ i ∈ isR, i ∉ isC)
    (hM : Met l y ws rm (gP K D wc H.size (.ref b :: As)) (va_Qv post (gB D wf (va_A wc H.size)) (va_A wc H.size)) mc ms (va_A wc H.size))
    (cw : CallW R s args own C index y bytes maxL ret ws rm mc ms n) (hrecv : ∃ cellB : Cell, H[b]? = some cellB ∧ cellB.vm.isStatics = false ∧ s.vm.findClass C = some cellB.cls)
    (hn : As.length = n) (hsize : ls.size = nL) (hst : st0 = As.reverse ++ .ref b :: rest) (hrm : (rest.map fun v => v.category).sum ≤ 8) (hdg : decode cc pc = .ok (.invokevirtual index, 3)) (hf : cells + mc ≤ R.cells ∧ slots + ms ≤ R.slots)
    (kk : ∀ (u : σ) (H1 : Heap) (locs1 : List Loc), post u → va_P D vwCl (wr ++ wf u) H1 → va_D A (wr ++ wf u) → va_S A H0 H1 locs1 → W p l e R s m args below meth c H1 locs1 (cells + mc) (slots + ms) Q (F0 m (pc + 3) ls rest)) :
    W p l e R s m args below meth c H locs cells slots Q (F0 m pc ls st0) := by
  have hFc := va_free (wc := wc) hD hS hA isC hC
  refine va_callv (va_runV (As := As) (rest := rest) S hM cw ⟨gP_blind hok, hrecv, fun U hU hW => ⟨rfl, by rw [hU], by rw [hU]; exact gP_sub hP isC hC, (hD.sub isC hnd.1 hC).weaken (fun _ _ _ _ => trivial), hok.1 s U hW hk⟩⟩ rfl hn hsize hst (lv_room hrm) hdg hf) hS (fun q _ h => hFc q h) hFc (fun u t H1 locs1 ht hvm hw hB hz1 hk1 hS1 => ?_)
  obtain ⟨hP1, hD1⟩ := hB
  rw [ht] at hP1
  obtain ⟨hP2, hD2⟩ := va_join (wr := wr) (w1 := wf u) hP hD isC isR hC hR hnd.2.1 hnd.2.2 hk1 hFc hP1 hD1
  exact kk u H1 locs1 hw hP2 hD2 hS1
theorem gc_iv {post : σ → Prop} (S : CallFix p m c cc nL s args Ts own) (hk : K s) (hok : gOK K) (hP : va_P D vwCl w0 H) (hD : va_D A w0) (hS : va_S A H0 H locs) (hA : ∀ q, H0.size ≤ q → A q)
    (isC isR : List Nat) (hC : isC.map (fun i => w0[i]?) = wc.map some) (hR : isR.map (fun i => w0[i]?) = wr.map some) (hnd : va_nd isC = true ∧ va_nd isR = true ∧ ∀ i ∈ isR, i ∉ isC)
    (hM : Met l y ws rm (gP K D wc H.size (.ref b :: As)) (va_Qv post (gB D wf (va_A wc H.size)) (va_A wc H.size)) mc ms (va_A wc H.size))
    (cw : CallB R s args own index y bytes maxL none ws rm mc ms n ∧ y.name = "<init>" ∧ (Cond.instanceMethod y).before args s = true)
    (hn : As.length = n) (hsize : ls.size = nL) (hst : st0 = As.reverse ++ .ref b :: rest) (hrm : (rest.map fun v => v.category).sum ≤ 8) (hdg : decode cc pc = .ok (.invokespecial index, 3)) (hf : cells + mc ≤ R.cells ∧ slots + ms ≤ R.slots)
    (kk : ∀ (u : σ) (H1 : Heap) (locs1 : List Loc), post u → va_P D vwCl (wr ++ wf u) H1 → va_D A (wr ++ wf u) → va_S A H0 H1 locs1 → W p l e R s m args below meth c H1 locs1 (cells + mc) (slots + ms) Q (F0 m (pc + 3) ls rest)) :
    W p l e R s m args below meth c H locs cells slots Q (F0 m pc ls st0) := by
  have hFc := va_free (wc := wc) hD hS hA isC hC
  refine va_callv (va_runI (As := As) (rest := rest) S hM cw ⟨gP_blind hok, fun U hU hW => ⟨rfl, by rw [hU], by rw [hU]; exact gP_sub hP isC hC, (hD.sub isC hnd.1 hC).weaken (fun _ _ _ _ => trivial), hok.1 s U hW hk⟩⟩ rfl hn hsize hst (lv_room hrm) hdg hf) hS (fun q _ h => hFc q h) hFc (fun u t H1 locs1 ht hvm hw hB hz1 hk1 hS1 => ?_)
  obtain ⟨hP1, hD1⟩ := hB
  rw [ht] at hP1
  obtain ⟨hP2, hD2⟩ := va_join (wr := wr) (w1 := wf u) hP hD isC isR hC hR hnd.2.1 hnd.2.2 hk1 hFc hP1 hD1
  exact kk u H1 locs1 hw hP2 hD2 hS1
/-- a static callee without a world: the caller's world stays -/
theorem gc_si {post : Int32 → Prop} (S : CallFix p m c cc nL s args Ts own) (hP : va_P D vwCl w0 H) (hD : va_D A w0) (hS : va_S A H0 H locs) (hA : ∀ q, H0.size ≤ q → A q)
    (hM : Met l y ws rm (va_Pc As (fun U => U.heap.size = H.size)) (va_Qi (fun r (_ : Unit) => post r) (fun _ _ => True) (va_A [] H.size)) mc ms (va_A [] H.size))
    (cw : CallB R s args own index y bytes maxL ret ws rm mc ms n ∧ (Cond.static y).before args s = true)
    (hn : As.length = n) (hsize : ls.size = nL) (hst : st0 = As.reverse ++ rest) (hrm : (rest.map fun v => v.category).sum ≤ 8) (hdg : decode cc pc = .ok (.invokestatic index, 3)) (hf : cells + mc ≤ R.cells ∧ slots + ms ≤ R.slots)
    (kk : ∀ (r : Int32) (H1 : Heap) (locs1 : List Loc), post r → va_P D vwCl w0 H1 → va_S A H0 H1 locs1 → W p l e R s m args below meth c H1 locs1 (cells + mc) (slots + ms) Q (F0 m (pc + 3) ls (.int r :: rest))) :
    W p l e R s m args below meth c H locs cells slots Q (F0 m pc ls st0) := by
  have hFc : ∀ q, va_A [] H.size q → A q := fun q h => by
    rcases h with ⟨k, x, h⟩ | h
    · simp at h
    · exact hA q (Nat.le_trans hS.1 h)
  refine va_calli (va_runS (As := As) (rest := rest) S hM cw ⟨fun a U g mk q => ⟨q.1, q.2⟩, fun U hU hW => ⟨rfl, by show U.heap.size = H.size; rw [hU]⟩⟩ rfl hn hsize hst (lv_room hrm) hdg hf) hS (fun q _ h => hFc q h) hFc (fun r u t H1 locs1 ht hvm hw hB hz1 hk1 hS1 => ?_)
  refine kk r H1 locs1 hw (fun k q hq => ?_) hS1
  have hl := (hP k q hq).lt
  exact (hP k q hq).kept (hk1 q.1 hl (fun h => by
    rcases h with ⟨k2, x, h⟩ | h
    · simp at h
    · omega))
end GC
section GN
variable {p : Program} {l : Launch} {e : Env} {R : Room} {s : State} {m : MethodId} {args : Array Value} {below : List Frame} {meth : Method} {c : Code} {H : Heap} {locs : List Loc} {cells slots : Nat} {Q : State → Prop}
variable {pc : Nat} {ls : Array Slot} {rest st0 As : List Value} {A : Nat → Prop} {H0 : Heap} {mc ms n index maxL nL : Nat} {y : MethodName} {bytes cc : ByteArray} {ret : Option FieldType} {Ts ws : List Cond} {rm : Room} {own C : String} {b : Addr} {D : va_G} {K : State → Prop} {w0 wc wr : va_W} {σ : Type} {wf : σ → va_W}
/-- a new row of ints, of the class that is known -/
theorem gn_newa {cI : ClassId} (hexec : p.tables.exec = Jvm.exec) (hb : c.code = cc) (harr : (Cond.arrayClass .int).before args s = true) (hK : va_K D vwCl [(cI, .int)] s) (hP : va_P D vwCl w0 H) (hD : va_D A w0) (hS : va_S A H0 H locs) (hA : ∀ q, H0.size ≤ q → A q)
    {n : Int32} {N' : Nat} (hn : ¬ n < 0) (hN : n.toNatClampNeg = N') (hbytes : N' * componentBytes .int ≤ 536870912) (hcells : cells + 1 ≤ R.cells) (hslots : slots + N' ≤ R.slots) (hdg : decode cc pc = .ok (.newarray .int, 2))
    (kk : ∀ (q : Nat) (H1 : Heap), va_P D vwCl (w0 ++ [(q, .inl (cI, N', .inl (fun _ => 0)))]) H1 → va_D A (w0 ++ [(q, .inl (cI, N', .inl (fun _ => 0)))]) → va_S A H0 H1 locs →
      W p l e R s m args below meth c H1 locs (cells + 1) (slots + N') Q (F0 m (pc + 2) ls (.ref q :: rest))) : W p l e R s m args below meth c H locs cells slots Q (F0 m pc ls (.int n :: rest)) := by
  refine va_newa (atype := .int) hexec hb harr (ty := .int) rfl hK hP hD hS hA (a0 := (N', .inl (fun _ => 0))) (fun cA => rfl) hn hN hbytes hcells hslots hdg (fun q cA H1 hK1 hP1 hD1 hS1 => ?_)
  have h1 : s.vm.findClass ("[" ++ FieldType.int.toString) = some cI := (hK.2 0 (cI, .int) rfl).2
  have h2 : s.vm.findClass ("[" ++ FieldType.int.toString) = some cA := (hK1.2 1 (cA, .int) rfl).2
  have h3 : cA = cI := Option.some.inj (h2.symm.trans h1)
  subst h3
  exact kk q H1 hP1 hD1 hS1
/-- a static callee with an exception table that isn't taken -/
theorem gc_swi {post : Int32 → σ → Prop} {hh : List (Nat × Nat × Nat × Nat)} (S : CallFix p m c cc nL s args Ts own) (hk : K s) (hok : gOK K) (hP : va_P D vwCl w0 H) (hD : va_D A w0) (hS : va_S A H0 H locs) (hA : ∀ q, H0.size ≤ q → A q)
    (isC isR : List Nat) (hC : isC.map (fun i => w0[i]?) = wc.map some) (hR : isR.map (fun i => w0[i]?) = wr.map some) (hnd : va_nd isC = true ∧ va_nd isR = true ∧ ∀ i ∈ isR, i ∉ isC)
    (hM : Met l y ws rm (gP K D wc H.size As) (va_Qi post (gB D wf (va_A wc H.size)) (va_A wc H.size)) mc ms (va_A wc H.size))
    (cw : vx_CSW R s args own index y bytes maxL ret hh ws rm mc ms n)
    (hn : As.length = n) (hsize : ls.size = nL) (hst : st0 = As.reverse ++ rest) (hrm : (rest.map fun v => v.category).sum ≤ 8) (hdg : decode cc pc = .ok (.invokestatic index, 3)) (hf : cells + mc ≤ R.cells ∧ slots + ms ≤ R.slots)
    (kk : ∀ (r : Int32) (u : σ) (H1 : Heap) (locs1 : List Loc), post r u → va_P D vwCl (wr ++ wf u) H1 → va_D A (wr ++ wf u) → va_S A H0 H1 locs1 → W p l e R s m args below meth c H1 locs1 (cells + mc) (slots + ms) Q (F0 m (pc + 3) ls (.int r :: rest))) :
    W p l e R s m args below meth c H locs cells slots Q (F0 m pc ls st0) := by
  have hFc := va_free (wc := wc) hD hS hA isC hC
  refine va_calli (vx_runSW (As := As) (rest := rest) S hM cw ⟨gP_blind hok, fun U hU hW => ⟨rfl, by rw [hU], by rw [hU]; exact gP_sub hP isC hC, (hD.sub isC hnd.1 hC).weaken (fun _ _ _ _ => trivial), hok.1 s U hW hk⟩⟩ rfl hn hsize hst (lv_room hrm) hdg hf) hS (fun q _ h => hFc q h) hFc (fun r u t H1 locs1 ht hvm hw hB hz1 hk1 hS1 => ?_)
  obtain ⟨hP1, hD1⟩ := hB
  rw [ht] at hP1
  obtain ⟨hP2, hD2⟩ := va_join (wr := wr) (w1 := wf u) hP hD isC isR hC hR hnd.2.1 hnd.2.2 hk1 hFc hP1 hD1
  exact kk r u H1 locs1 hw hP2 hD2 hS1
end GN
