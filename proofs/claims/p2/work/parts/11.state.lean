/-! what a state is: the class (cw: 7 objects, 5 rows) and the reference (mw: 1 object, 6 rows); the numbers of g and d: see wip/gen/gen.py -/
abbrev SS : Type := (Nat → Int32) × (Nat → UInt64) × (Nat → Nat → Int32)
def cw (cI : ClassId) (a : Nat → Nat) (g : Nat → Int32) (d : Nat → UInt64) (F : Nat → Nat → Int32) : va_W := [(a 0, .inr (6, [.ref (a 1), .ref (a 2), .ref (a 3), .ref (a 4), .ref (a 5), .ref (a 6), .ref (a 7), .int (g 0), .int (g 1), .int (g 2), .int (g 3)])), (a 1, .inr (2, [.ref (a 8), .int (g 4), .int (g 5)])), (a 2, .inr (1, [.ref (a 1), .int (g 6)])), (a 3, .inr (5, [.ref (a 2), .ref (a 1), .ref (a 9), .ref (a 10), .ref (a 11), .int (g 7), .int (g 8), .int (g 9), .int (g 10)])), (a 4, .inr (0, [.ref (a 2), .ref (a 1), .int (g 11), .int (g 12), .int (g 13), .int (g 14), .double (d 0), .double (d 1), .int (g 15), .int (g 16), .int (g 17), .int (g 18), .int (g 19), .int (g 20), .int (g 21)])), (a 5, .inr (3, [.ref (a 2), .ref (a 1), .int (g 22), .int (g 23), .int (g 24), .int (g 25), .int (g 26)])), (a 6, .inr (4, [.int (g 27), .int (g 28), .double (d 2), .double (d 3), .double (d 4)])), (a 7, .inl (cI, 5, .inl (F 0))), (a 8, .inl (cI, 8, .inl (F 1))), (a 9, .inl (cI, 20, .inl (F 2))), (a 10, .inl (cI, 20, .inl (F 3))), (a 11, .inl (cI, 20, .inl (F 4)))]
def mw (cI : ClassId) (a : Nat → Nat) (g : Nat → Int32) (d : Nat → UInt64) (F : Nat → Nat → Int32) : va_W := [(a 0, .inr (7, [.int (g 0), .int (g 1), .int (g 2), .int (g 3), .ref (a 1), .int (g 5), .int (g 6), .int (g 7), .ref (a 2), .ref (a 3), .ref (a 4), .int (g 11), .int (g 12), .int (g 13), .int (g 14), .int (g 15), .double (d 16), .double (d 17), .int (g 18), .int (g 19), .int (g 20), .int (g 21), .ref (a 5), .int (g 23), .int (g 24), .int (g 25), .int (g 26), .int (g 27), .int (g 28), .int (g 29), .int (g 30), .int (g 31), .int (g 32), .int (g 33), .double (d 34), .double (d 35), .double (d 36), .int (g 37), .int (g 38), .int (g 39), .ref (a 6)])), (a 1, .inl (cI, 5, .inl (F 0))), (a 2, .inl (cI, 20, .inl (F 1))), (a 3, .inl (cI, 20, .inl (F 2))), (a 4, .inl (cI, 20, .inl (F 3))), (a 5, .inl (cI, 8, .inl (F 4))), (a 6, .inl (cI, 8, .inl (F 5)))]
def wfC (cI : ClassId) (a : Nat → Nat) (u : SS) : va_W := cw cI a u.1 u.2.1 u.2.2
def wfM (cI : ClassId) (a : Nat → Nat) (u : SS) : va_W := mw cI a u.1 u.2.1 u.2.2
def nwl : List Cond := [.fieldLinkNest "GuardedCalls$Breaker" 64 "GuardedCalls$Clock" "now" "I" "GuardedCalls", .fieldLinkNest "GuardedCalls$Limiter" 42 "GuardedCalls$Clock" "now" "I" "GuardedCalls", .fieldLinkNest "GuardedCalls" 221 "GuardedCalls$Clock" "now" "I" "GuardedCalls", .fieldLinkNest "GuardedCalls" 217 "GuardedCalls$Supplier" "waiting" "I" "GuardedCalls", .fieldLinkNest "GuardedCalls" 220 "GuardedCalls$Supplier" "calls" "I" "GuardedCalls", .fieldLinkNest "GuardedCalls" 195 "GuardedCalls$Supplier" "answer" "I" "GuardedCalls", .fieldLinkNest "GuardedCalls" 76 "GuardedCalls$Breaker" "size" "I" "GuardedCalls", .fieldLinkNest "GuardedCalls" 79 "GuardedCalls$Breaker" "least" "I" "GuardedCalls", .fieldLinkNest "GuardedCalls" 82 "GuardedCalls$Breaker" "rest" "I" "GuardedCalls", .fieldLinkNest "GuardedCalls" 85 "GuardedCalls$Breaker" "trials" "I" "GuardedCalls", .fieldLinkNest "GuardedCalls" 98 "GuardedCalls$Breaker" "failures" "D" "GuardedCalls", .fieldLinkNest "GuardedCalls" 102 "GuardedCalls$Breaker" "sluggishness" "D" "GuardedCalls", .fieldLinkNest "GuardedCalls" 105 "GuardedCalls$Breaker" "slow" "I" "GuardedCalls", .fieldLinkNest "GuardedCalls" 88 "GuardedCalls$Breaker" "state" "I" "GuardedCalls", .fieldLinkNest "GuardedCalls" 211 "GuardedCalls$Breaker" "letIn" "I" "GuardedCalls", .fieldLinkNest "GuardedCalls" 208 "GuardedCalls$Breaker" "calls" "I" "GuardedCalls", .fieldLinkNest "GuardedCalls" 198 "GuardedCalls$Breaker" "failedCalls" "I" "GuardedCalls", .fieldLinkNest "GuardedCalls" 205 "GuardedCalls$Breaker" "slowCalls" "I" "GuardedCalls", .fieldLinkNest "GuardedCalls" 108 "GuardedCalls$Limiter" "period" "I" "GuardedCalls", .fieldLinkNest "GuardedCalls" 111 "GuardedCalls$Limiter" "limit" "I" "GuardedCalls", .fieldLinkNest "GuardedCalls" 114 "GuardedCalls$Limiter" "patience" "I" "GuardedCalls", .fieldLinkNest "GuardedCalls" 214 "GuardedCalls$Limiter" "left" "I" "GuardedCalls", .fieldLinkNest "GuardedCalls" 120 "GuardedCalls$Retry" "attempts" "I" "GuardedCalls", .fieldLinkNest "GuardedCalls" 123 "GuardedCalls$Retry" "again" "I" "GuardedCalls", .fieldLinkNest "GuardedCalls" 138 "GuardedCalls$Retry" "first" "D" "GuardedCalls", .fieldLinkNest "GuardedCalls" 141 "GuardedCalls$Retry" "times" "D" "GuardedCalls", .fieldLinkNest "GuardedCalls" 144 "GuardedCalls$Retry" "most" "D" "GuardedCalls"]
theorem nwl_tab : ∀ w ∈ nwl, w.onTables = true := by decide +kernel
def NW (U : State) : Prop := ∀ w ∈ nwl, va_Nw w U
theorem NW_moved {s U : State} (hW : s.WarmedH U.vm) (h : NW s) : NW U := by
  intro w hw
  have h0 := h w hw
  simp only [nwl, List.mem_cons, List.not_mem_nil, or_false] at hw
  rcases hw with rfl | rfl | rfl | rfl | rfl | rfl | rfl | rfl | rfl | rfl | rfl | rfl | rfl | rfl | rfl | rfl | rfl | rfl | rfl | rfl | rfl | rfl | rfl | rfl | rfl | rfl | rfl <;> exact va_Nw.warmF hW h0
theorem nw_use {A : Array Value} {U : State} {w : Cond} (h : NW U) (hw : w ∈ nwl) : w.before A U = true := va_Nw.use (nwl_tab w hw) (h w hw)
def KC (D : va_G) (cI : ClassId) (U : State) : Prop := va_K D vwCl [(cI, .int)] U ∧ NW U
def KM (D : va_G) (cI : ClassId) (U : State) : Prop := va_K D vwCl [(cI, .int)] U ∧ True
theorem KC_ok (D : va_G) (cI : ClassId) : gOK (KC D cI) := ⟨fun s U hW h => ⟨va_K.moved hW.alike h.1, NW_moved hW h.2⟩, fun a U g mk h => ⟨va_K.moved (u := U) (U := U.calling g mk a) (Vm.Alike.refl U.vm) h.1, fun w hw => va_Nw.same (u := U) (U := U.calling g mk a) (nwl_tab w hw) rfl (h.2 w hw)⟩⟩
theorem KM_ok (D : va_G) (cI : ClassId) : gOK (KM D cI) := ⟨fun s U hW h => ⟨va_K.moved hW.alike h.1, trivial⟩, fun a U g mk h => ⟨va_K.moved (u := U) (U := U.calling g mk a) (Vm.Alike.refl U.vm) h.1, trivial⟩⟩
def bw (v lo hi : Int32) : Int32 := if v < lo then 0 else if hi < v then 0 else 1
def br (v : UInt64) : Int32 := if Op.cmpValue (FP.dcmp v FP.dconst0) .l ≤ 0 then 0 else if 0 < Op.cmpValue (FP.dcmp v 4636737291354636288) .g then 0 else 1
def bb (v lo hi : UInt64) : Int32 := if Op.cmpValue (FP.dcmp v lo) .l < 0 then 0 else if 0 < Op.cmpValue (FP.dcmp v hi) .g then 0 else 1
abbrev CInv (g : Nat → Int32) : Prop := (0 ≤ (g 4).toInt ∧ (g 4).toInt < 8) ∧ (0 ≤ (g 5).toInt ∧ (g 5).toInt ≤ 8) ∧ (0 ≤ (g 7).toInt ∧ (g 7).toInt < 20) ∧ (0 ≤ (g 8).toInt ∧ (g 8).toInt ≤ 20)
abbrev CK (g : Nat → Int32) (F : Nat → Nat → Int32) (u : SS) : Prop := (CInv g → CInv u.1) ∧ u.1 0 = g 0 ∧ u.1 2 = g 2 ∧ u.2.2 0 = F 0
def cgI : Nat → Int32 := fun k => [0, 2, 0, 10, 0, 0, 0, 0, 0, 0, 0, 4, 2, 10, 2, 5, 0, 0, 0, 0, 0, 0, 10, 2, 5, 0, 2, 3, 16].getD k 0
def cdI : Nat → UInt64 := fun k => [4632233691727265792, 4636737291354636288, FP.dconst1, 4611686018427387904, 4620693217682128896].getD k 0
def mgI : Nat → Int32 := fun k => [0, 0, 2000000000, 0, 0, 0, 0, 0, 0, 0, 0, 4, 2, 10, 2, 5, 0, 0, 0, 0, 0, 0, 0, 0, 0, 2, 0, 10, 2, 5, 0, 2, 3, 16, 0, 0, 0, 0, 10, 0, 0].getD k 0
def mdI : Nat → UInt64 := fun k => [0, 0, 0, 0, 0, 0, 0, 0, 0, 0, 0, 0, 0, 0, 0, 0, 4632233691727265792, 4636737291354636288, 0, 0, 0, 0, 0, 0, 0, 0, 0, 0, 0, 0, 0, 0, 0, 0, FP.dconst1, 4611686018427387904, 4620693217682128896, 0, 0, 0, 0].getD k 0
def cFI : Nat → Nat → Int32 := fun _ _ => 0
def mFI : Nat → Nat → Int32 := fun _ _ => 0
theorem sw_4 (x : Int32) : (x.toInt < 0 ∨ 4 < x.toInt) ∨ x = 0 ∨ x = 1 ∨ x = 2 ∨ x = 3 ∨ x = 4 := by
  by_cases h1 : x.toInt < 0
  · exact Or.inl (Or.inl h1)
  by_cases h2 : 4 < x.toInt
  · exact Or.inl (Or.inr h2)
  have h : x.toInt = 0 ∨ x.toInt = 1 ∨ x.toInt = 2 ∨ x.toInt = 3 ∨ x.toInt = 4 := by omega
  rcases h with h | h | h | h | h
  · exact Or.inr (Or.inl (Int32.toInt_inj.mp h))
  · exact Or.inr (Or.inr (Or.inl (Int32.toInt_inj.mp h)))
  · exact Or.inr (Or.inr (Or.inr (Or.inl (Int32.toInt_inj.mp h))))
  · exact Or.inr (Or.inr (Or.inr (Or.inr (Or.inl (Int32.toInt_inj.mp h)))))
  · exact Or.inr (Or.inr (Or.inr (Or.inr (Or.inr (Int32.toInt_inj.mp h)))))
theorem sw_7 (x : Int32) : (x.toInt < 0 ∨ 7 < x.toInt) ∨ x = 0 ∨ x = 1 ∨ x = 2 ∨ x = 3 ∨ x = 4 ∨ x = 5 ∨ x = 6 ∨ x = 7 := by
  by_cases h1 : x.toInt < 0
  · exact Or.inl (Or.inl h1)
  by_cases h2 : 7 < x.toInt
  · exact Or.inl (Or.inr h2)
  have h : x.toInt = 0 ∨ x.toInt = 1 ∨ x.toInt = 2 ∨ x.toInt = 3 ∨ x.toInt = 4 ∨ x.toInt = 5 ∨ x.toInt = 6 ∨ x.toInt = 7 := by omega
  rcases h with h | h | h | h | h | h | h | h
  · exact Or.inr (Or.inl (Int32.toInt_inj.mp h))
  · exact Or.inr (Or.inr (Or.inl (Int32.toInt_inj.mp h)))
  · exact Or.inr (Or.inr (Or.inr (Or.inl (Int32.toInt_inj.mp h))))
  · exact Or.inr (Or.inr (Or.inr (Or.inr (Or.inl (Int32.toInt_inj.mp h)))))
  · exact Or.inr (Or.inr (Or.inr (Or.inr (Or.inr (Or.inl (Int32.toInt_inj.mp h))))))
  · exact Or.inr (Or.inr (Or.inr (Or.inr (Or.inr (Or.inr (Or.inl (Int32.toInt_inj.mp h)))))))
  · exact Or.inr (Or.inr (Or.inr (Or.inr (Or.inr (Or.inr (Or.inr (Or.inl (Int32.toInt_inj.mp h))))))))
  · exact Or.inr (Or.inr (Or.inr (Or.inr (Or.inr (Or.inr (Or.inr (Or.inr (Int32.toInt_inj.mp h))))))))
theorem sw_16 (x : Int32) : (x.toInt < 0 ∨ 16 < x.toInt) ∨ x = 0 ∨ x = 1 ∨ x = 2 ∨ x = 3 ∨ x = 4 ∨ x = 5 ∨ x = 6 ∨ x = 7 ∨ x = 8 ∨ x = 9 ∨ x = 10 ∨ x = 11 ∨ x = 12 ∨ x = 13 ∨ x = 14 ∨ x = 15 ∨ x = 16 := by
  by_cases h1 : x.toInt < 0
  · exact Or.inl (Or.inl h1)
  by_cases h2 : 16 < x.toInt
  · exact Or.inl (Or.inr h2)
  have h : x.toInt = 0 ∨ x.toInt = 1 ∨ x.toInt = 2 ∨ x.toInt = 3 ∨ x.toInt = 4 ∨ x.toInt = 5 ∨ x.toInt = 6 ∨ x.toInt = 7 ∨ x.toInt = 8 ∨ x.toInt = 9 ∨ x.toInt = 10 ∨ x.toInt = 11 ∨ x.toInt = 12 ∨ x.toInt = 13 ∨ x.toInt = 14 ∨ x.toInt = 15 ∨ x.toInt = 16 := by omega
  rcases h with h | h | h | h | h | h | h | h | h | h | h | h | h | h | h | h | h
  · exact Or.inr (Or.inl (Int32.toInt_inj.mp h))
  · exact Or.inr (Or.inr (Or.inl (Int32.toInt_inj.mp h)))
  · exact Or.inr (Or.inr (Or.inr (Or.inl (Int32.toInt_inj.mp h))))
  · exact Or.inr (Or.inr (Or.inr (Or.inr (Or.inl (Int32.toInt_inj.mp h)))))
  · exact Or.inr (Or.inr (Or.inr (Or.inr (Or.inr (Or.inl (Int32.toInt_inj.mp h))))))
  · exact Or.inr (Or.inr (Or.inr (Or.inr (Or.inr (Or.inr (Or.inl (Int32.toInt_inj.mp h)))))))
  · exact Or.inr (Or.inr (Or.inr (Or.inr (Or.inr (Or.inr (Or.inr (Or.inl (Int32.toInt_inj.mp h))))))))
  · exact Or.inr (Or.inr (Or.inr (Or.inr (Or.inr (Or.inr (Or.inr (Or.inr (Or.inl (Int32.toInt_inj.mp h)))))))))
  · exact Or.inr (Or.inr (Or.inr (Or.inr (Or.inr (Or.inr (Or.inr (Or.inr (Or.inr (Or.inl (Int32.toInt_inj.mp h))))))))))
  · exact Or.inr (Or.inr (Or.inr (Or.inr (Or.inr (Or.inr (Or.inr (Or.inr (Or.inr (Or.inr (Or.inl (Int32.toInt_inj.mp h)))))))))))
  · exact Or.inr (Or.inr (Or.inr (Or.inr (Or.inr (Or.inr (Or.inr (Or.inr (Or.inr (Or.inr (Or.inr (Or.inl (Int32.toInt_inj.mp h))))))))))))
  · exact Or.inr (Or.inr (Or.inr (Or.inr (Or.inr (Or.inr (Or.inr (Or.inr (Or.inr (Or.inr (Or.inr (Or.inr (Or.inl (Int32.toInt_inj.mp h)))))))))))))
  · exact Or.inr (Or.inr (Or.inr (Or.inr (Or.inr (Or.inr (Or.inr (Or.inr (Or.inr (Or.inr (Or.inr (Or.inr (Or.inr (Or.inl (Int32.toInt_inj.mp h))))))))))))))
  · exact Or.inr (Or.inr (Or.inr (Or.inr (Or.inr (Or.inr (Or.inr (Or.inr (Or.inr (Or.inr (Or.inr (Or.inr (Or.inr (Or.inr (Or.inl (Int32.toInt_inj.mp h)))))))))))))))
  · exact Or.inr (Or.inr (Or.inr (Or.inr (Or.inr (Or.inr (Or.inr (Or.inr (Or.inr (Or.inr (Or.inr (Or.inr (Or.inr (Or.inr (Or.inr (Or.inl (Int32.toInt_inj.mp h))))))))))))))))
  · exact Or.inr (Or.inr (Or.inr (Or.inr (Or.inr (Or.inr (Or.inr (Or.inr (Or.inr (Or.inr (Or.inr (Or.inr (Or.inr (Or.inr (Or.inr (Or.inr (Or.inl (Int32.toInt_inj.mp h)))))))))))))))))
  · exact Or.inr (Or.inr (Or.inr (Or.inr (Or.inr (Or.inr (Or.inr (Or.inr (Or.inr (Or.inr (Or.inr (Or.inr (Or.inr (Or.inr (Or.inr (Or.inr (Or.inr (Int32.toInt_inj.mp h)))))))))))))))))
