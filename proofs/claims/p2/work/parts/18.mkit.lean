def Stk (h : Int32) (f : Nat → Int32) : Prop := 0 ≤ h.toInt ∧ h.toInt ≤ 5 ∧ (∀ i : Nat, (i : Int) < h.toInt → 0 ≤ (f i).toInt ∧ (f i).toInt ≤ 4) ∧ ∀ i j : Nat, (i : Int) < h.toInt → (j : Int) < h.toInt → f i = f j → i = j
abbrev M6 (st ct mo sz : Int32) : Prop := 0 ≤ ct.toInt ∧ (st = 2 → ct.toInt < mo.toInt) ∧ (¬ st = 2 → ct.toInt ≤ sz.toInt)
def M9 (f : Nat → Int32) : Prop := ∀ i : Nat, i < 20 → 0 ≤ (f i).toInt ∧ (f i).toInt ≤ 2
abbrev MI (g : Nat → Int32) (d : Nat → UInt64) (F : Nat → Nat → Int32) : Prop := (0 ≤ (g 39).toInt ∧ (g 39).toInt ≤ 8) ∧ (0 ≤ (g 7).toInt ∧ (g 7).toInt ≤ 20) ∧ (N1 (d 34) ∧ N2 (d 35)) ∧ ((1 ≤ (g 11).toInt ∧ (g 11).toInt ≤ 8) ∧ (1 ≤ (g 14).toInt ∧ (g 14).toInt ≤ 4)) ∧ (¬ g 27 = 0) ∧ M6 (g 18) (g 21) (g 14) (g 11) ∧ Stk (g 3) (F 0) ∧ 0 ≤ (g 37).toInt ∧ M9 (F 1)
abbrev MP (g : Nat → Int32) (F : Nat → Nat → Int32) (u : SS) : Prop := MI u.1 u.2.1 u.2.2 ∧ u.1 3 = g 3 ∧ u.1 26 = g 26 ∧ u.2.2 0 = F 0 ∧ u.1 32 = g 32 ∧ u.1 18 = g 18 ∧ u.1 21 = g 21 ∧ u.1 23 = g 23 ∧ u.1 37 = g 37
abbrev TOK (g : Nat → Int32) : Prop := (g 23 = 1 ∧ g 18 = 2) ∨ (g 23 = 0 ∧ ¬ g 18 = 2)
theorem M6_zero {st mo sz : Int32} (h1 : 1 ≤ mo.toInt) (h2 : 1 ≤ sz.toInt) : M6 st 0 mo sz := ⟨by decide, fun _ => by rw [show (0 : Int32).toInt = 0 from rfl]; omega, fun _ => by rw [show (0 : Int32).toInt = 0 from rfl]; omega⟩
theorem cnt8 {g : Nat → Int32} {d : Nat → UInt64} {F : Nat → Nat → Int32} (h : MI g d F) : 0 ≤ (g 21).toInt ∧ (g 21).toInt ≤ 8 := by
  obtain ⟨-, -, -, ⟨h1, h2⟩, -, ⟨h3, h4, h5⟩, -⟩ := h
  refine ⟨h3, ?_⟩
  by_cases c : g 18 = 2
  · have := h4 c; omega
  · have := h5 c; omega
theorem bw_rng {v lo hi : Int32} (h : ¬ bw v lo hi = 0) : lo.toInt ≤ v.toInt ∧ v.toInt ≤ hi.toInt := by
  unfold bw at h
  by_cases h1 : v < lo
  · simp [h1] at h
  · by_cases h2 : hi < v
    · simp [h1, h2] at h
    · rw [Int32.lt_iff_toInt_lt] at h1 h2
      omega
theorem M9_up {f : Nat → Int32} {k : Nat} {x : Int32} (h : M9 f) (hx : 0 ≤ x.toInt ∧ x.toInt ≤ 2) : M9 (upd f k x) := by
  intro i hi
  unfold upd
  split
  · exact hx
  · exact h i hi
theorem in8_lt {k t : Int32} (h0 : 0 ≤ k.toInt) (h1 : ¬ t ≤ k) (ht : t.toInt ≤ 8) : vp_in k 8 := vp_in_iff.mpr ⟨h0, by have := i_lt h1; omega⟩
theorem MI_F {g : Nat → Int32} {d : Nat → UInt64} {F F1 : Nat → Nat → Int32} (h : MI g d F) (h0 : F1 0 = F 0) (h1 : M9 (F1 1)) : MI g d F1 := ⟨h.1, h.2.1, h.2.2.1, h.2.2.2.1, h.2.2.2.2.1, h.2.2.2.2.2.1, by rw [h0]; exact h.2.2.2.2.2.2.1, h.2.2.2.2.2.2.2.1, h1⟩
theorem win_in {g : Nat → Int32} (hm : (1 ≤ (g 11).toInt ∧ (g 11).toInt ≤ 8) ∧ (1 ≤ (g 14).toInt ∧ (g 14).toInt ≤ 4)) (h : M6 (g 18) (g 21) (g 14) (g 11)) (ht : TOK g) (hc : ¬ g 23 = 0 ∨ ¬ g 21 = g 11) : vp_in (g 21) 8 := by
  obtain ⟨h0, h1, h2⟩ := h
  refine vp_in_iff.mpr ⟨h0, ?_⟩
  rcases ht with ⟨ha, hb⟩ | ⟨ha, hb⟩
  · have := h1 hb; omega
  · have h3 := h2 hb
    rcases hc with hc | hc
    · exact absurd ha hc
    · have h4 : (g 21).toInt ≠ (g 11).toInt := fun e => hc (Int32.toInt_inj.mp e)
      omega
theorem i_inc8 {k : Int32} (h0 : 0 ≤ k.toInt) (h : k.toInt ≤ 100) : (k + 1).toInt = k.toInt + 1 := by
  rw [Int32.toInt_add, show (1 : Int32).toInt = 1 from rfl, Int.bmod_eq_of_le (by omega) (by omega)]
theorem i_add {a b : Int32} (h0 : 0 ≤ a.toInt) (h1 : a.toInt ≤ 100) (h2 : 0 ≤ b.toInt) (h3 : b.toInt ≤ 100) : (a + b).toInt = a.toInt + b.toInt := by
  rw [Int32.toInt_add, Int.bmod_eq_of_le (by omega) (by omega)]
