def exs : List String := ["java/lang/IllegalStateException", "java/lang/IndexOutOfBoundsException", "java/util/NoSuchElementException", "java/lang/ArithmeticException", "java/lang/IllegalArgumentException", "java/lang/UnsupportedOperationException"]
def xall : List Cond := (vx_atS RX6 167 "java/lang/IllegalStateException" ["java/lang/RuntimeException", "java/lang/Exception"]) ++ (vx_atS RX6 174 "java/lang/IndexOutOfBoundsException" ["java/lang/RuntimeException", "java/lang/Exception"]) ++ (vy_at RX6 179 "java/util/NoSuchElementException" 13 vy_rx ["java/lang/RuntimeException", "java/lang/Exception"]) ++ (vx_atS RX6 184 "java/lang/ArithmeticException" ["java/lang/RuntimeException", "java/lang/Exception"]) ++ (vx_atS RX6 189 "java/lang/IllegalArgumentException" ["java/lang/RuntimeException", "java/lang/Exception"]) ++ (vx_atS RX6 194 "java/lang/UnsupportedOperationException" ["java/lang/RuntimeException", "java/lang/Exception"])
def xkind (w : Cond) : Bool := goodWord w || match w with | .declares _ => true | .castable _ _ => true | _ => false
theorem xall_kind : ∀ w ∈ xall, xkind w = true := by decide +kernel
theorem xall_tab : ∀ w ∈ xall, w.onTables = true := by decide +kernel
def XW (U : State) : Prop := ∀ w ∈ xall, va_Nw w U
theorem XW_moved {s U : State} (hW : s.WarmedH U.vm) (h : XW s) : XW U := by
  intro w hw
  have h0 := h w hw
  have hk := xall_kind w hw
  by_cases hg : goodWord w = true
  · exact word_at hW (good_of_word hg) h0
  · unfold xkind at hk
    rw [Bool.or_eq_true] at hk
    rcases hk with hk | hk
    · exact absurd hk hg
    · cases w with
      | declares x => exact va_Nw.warmD hW h0
      | castable a b => exact va_Nw.warmC hW h0
      | _ => exact absurd hk (by simp)
def XS (U : State) : Prop := (∃ sa, vk_R RX6 165 "the breaker refused" sa U) ∧ (∃ sa, vk_R RX6 172 "the bulkhead refused" sa U) ∧ (∃ sa, vk_R RX6 177 "the limiter refused" sa U) ∧ (∃ sa, vk_R RX6 182 "cut off by the deadline" sa U) ∧ (∃ sa, vk_R RX6 187 "the supplier failed in the first way" sa U) ∧ (∃ sa, vk_R RX6 192 "the supplier failed in the second way" sa U)
theorem XS_moved {s U : State} (hW : s.WarmedH U.vm) (h : XS s) : XS U := by
  obtain ⟨⟨a0, h0⟩, ⟨a1, h1⟩, ⟨a2, h2⟩, ⟨a3, h3⟩, ⟨a4, h4⟩, ⟨a5, h5⟩⟩ := h
  exact ⟨⟨a0, vk_R.warm hW h0⟩, ⟨a1, vk_R.warm hW h1⟩, ⟨a2, vk_R.warm hW h2⟩, ⟨a3, vk_R.warm hW h3⟩, ⟨a4, vk_R.warm hW h4⟩, ⟨a5, vk_R.warm hW h5⟩⟩
theorem XS_same {s U : State} (hv : U.vm = s.vm) (h : XS s) : XS U := by
  obtain ⟨⟨a0, h0⟩, ⟨a1, h1⟩, ⟨a2, h2⟩, ⟨a3, h3⟩, ⟨a4, h4⟩, ⟨a5, h5⟩⟩ := h
  exact ⟨⟨a0, vk_R.same hv h0⟩, ⟨a1, vk_R.same hv h1⟩, ⟨a2, vk_R.same hv h2⟩, ⟨a3, vk_R.same hv h3⟩, ⟨a4, vk_R.same hv h4⟩, ⟨a5, vk_R.same hv h5⟩⟩
def ncl : List (String × String) := [("java/lang/IllegalStateException", "java/lang/IndexOutOfBoundsException"), ("java/lang/IllegalStateException", "java/util/NoSuchElementException"), ("java/lang/IllegalStateException", "java/lang/ArithmeticException"), ("java/lang/IllegalStateException", "java/lang/IllegalArgumentException"), ("java/lang/IllegalStateException", "java/lang/UnsupportedOperationException"), ("java/lang/IndexOutOfBoundsException", "java/lang/IllegalStateException"), ("java/lang/IndexOutOfBoundsException", "java/util/NoSuchElementException"), ("java/lang/IndexOutOfBoundsException", "java/lang/ArithmeticException"), ("java/lang/IndexOutOfBoundsException", "java/lang/IllegalArgumentException"), ("java/lang/IndexOutOfBoundsException", "java/lang/UnsupportedOperationException"), ("java/util/NoSuchElementException", "java/lang/IllegalStateException"), ("java/util/NoSuchElementException", "java/lang/IndexOutOfBoundsException"), ("java/util/NoSuchElementException", "java/lang/ArithmeticException"), ("java/util/NoSuchElementException", "java/lang/IllegalArgumentException"), ("java/util/NoSuchElementException", "java/lang/UnsupportedOperationException"), ("java/lang/ArithmeticException", "java/lang/IllegalStateException"), ("java/lang/ArithmeticException", "java/lang/IndexOutOfBoundsException"), ("java/lang/ArithmeticException", "java/util/NoSuchElementException"), ("java/lang/ArithmeticException", "java/lang/IllegalArgumentException"), ("java/lang/ArithmeticException", "java/lang/UnsupportedOperationException"), ("java/lang/IllegalArgumentException", "java/lang/IllegalStateException"), ("java/lang/IllegalArgumentException", "java/lang/IndexOutOfBoundsException"), ("java/lang/IllegalArgumentException", "java/util/NoSuchElementException"), ("java/lang/IllegalArgumentException", "java/lang/ArithmeticException"), ("java/lang/IllegalArgumentException", "java/lang/UnsupportedOperationException"), ("java/lang/UnsupportedOperationException", "java/lang/IllegalStateException"), ("java/lang/UnsupportedOperationException", "java/lang/IndexOutOfBoundsException"), ("java/lang/UnsupportedOperationException", "java/util/NoSuchElementException"), ("java/lang/UnsupportedOperationException", "java/lang/ArithmeticException"), ("java/lang/UnsupportedOperationException", "java/lang/IllegalArgumentException")]
def XC_ (U : State) : Prop := ∀ q ∈ ncl, va_Nc q.1 q.2 U
def KX (D : va_G) (cI : ClassId) (U : State) : Prop := KC D cI U ∧ XW U ∧ XS U ∧ XC_ U
theorem KX_ok (D : va_G) (cI : ClassId) : gOK (KX D cI) := ⟨fun s U hW h => ⟨(KC_ok D cI).1 s U hW h.1, XW_moved hW h.2.1, XS_moved hW h.2.2.1, fun q hq => (h.2.2.2 q hq).moved hW.alike⟩, fun a U g mk h => ⟨(KC_ok D cI).2 a U g mk h.1, fun w hw => va_Nw.same (u := U) (U := U.calling g mk a) (xall_tab w hw) rfl (h.2.1 w hw), XS_same (s := U) (U := U.calling g mk a) rfl h.2.2.1, fun q hq => va_Nc.moved (u := U) (U := U.calling g mk a) (Vm.Alike.refl U.vm) (h.2.2.2 q hq)⟩⟩
/-- the two statics of Throwable, apart from A -/
def ZZ (A : Nat → Prop) (U : State) (H : Heap) : Prop := vx_Zq Bundle.tN "UNASSIGNED_STACK" Bundle.steD A U H ∧ vx_Zq Bundle.tN "SUPPRESSED_SENTINEL" Bundle.listD A U H
theorem ZZ_for {A B : Nat → Prop} {s U : State} {H : Heap} {locs : List Loc} (hz : ZZ A s s.heap) (hS : va_S A s.heap H locs) (hB : ∀ q, B q → A q) (hU : U.heap = H) (hW : s.WarmedH U.vm) : ZZ B U U.heap := by
  rw [hU]
  exact ⟨((hz.1.kept hS.2.1).moved hW.alike).narrow hB, ((hz.2.kept hS.2.1).moved hW.alike).narrow hB⟩
def gPz (K : State → Prop) (D : va_G) (w : va_W) (sz : Nat) (av : List Value) : Array Value → State → Prop := va_Pc av (fun U => U.heap.size = sz ∧ va_P D vwCl w U.heap ∧ va_D (fun _ => True) w ∧ K U ∧ ZZ (va_A w sz) U U.heap)
theorem gPz_blind {K : State → Prop} {D : va_G} {w : va_W} {sz : Nat} {av : List Value} (h : gOK K) : FrameBlind (gPz K D w sz av) := fun a U g mk q => ⟨q.1, q.2.1, q.2.2.1, q.2.2.2.1, h.2 a U g mk q.2.2.2.2.1, ⟨vx_Zq.moved (u := U) (U := U.calling g mk a) (Vm.Alike.refl U.vm) q.2.2.2.2.2.1, vx_Zq.moved (u := U) (U := U.calling g mk a) (Vm.Alike.refl U.vm) q.2.2.2.2.2.2⟩⟩
