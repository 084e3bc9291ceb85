def sp1 (v lo hi : Int32) : Int32 := if bw v lo hi = 0 then 0 else 1
def sp_breaker (s l w t : Int32) : Int32 := if bw s 1 8 = 0 then 0 else if bw l 1 s = 0 then 0 else if bw w 0 100 = 0 then 0 else if bw t 1 4 = 0 then 0 else 1
def sp_trips (f s : UInt64) (k : Int32) : Int32 := if br f = 0 then 0 else if br s = 0 then 0 else if bw k 0 100 = 0 then 0 else 1
def sp_lim (p l w : Int32) : Int32 := if bw p 1 50 = 0 then 0 else if bw l 1 5 = 0 then 0 else if bw w 0 100 = 0 then 0 else 1
def sp_retry (x y : Int32) : Int32 := if bw x 1 5 = 0 then 0 else if bw y 0 63 = 0 then 0 else 1
def sp_back (f t m : UInt64) : Int32 := if bb f FP.dconst0 4632233691727265792 = 0 then 0 else if bb t 4602678819172646912 4616189618054758400 = 0 then 0 else if bb m FP.dconst0 4636737291354636288 = 0 then 0 else 1
def sp_out (w l : Int32) : Int32 := if bw w 0 2 = 0 then 0 else if bw l 0 50 = 0 then 0 else 1
def sp_lay0 (k : Int32) : Int32 := if bw k 0 4 = 0 then -1 else 1
def sp_tell0 (w : Int32) : Int32 := if 4 ≤ w then (if w = 4 then 2 else if w = 5 then 0 else if w = 6 then 0 else if w = 7 then 0 else -1) else (if w = 0 then 0 else if w = 1 then 0 else if w = 2 then 0 else if w = 3 then 0 else -1)
theorem sp_tell0_out (w : Int32) (h : w.toInt < 0 ∨ 7 < w.toInt) : sp_tell0 w = -1 := by
  have hn : ∀ k : Int32, 0 ≤ k.toInt → k.toInt ≤ 7 → w ≠ k := fun k h1 h2 e => by subst e; omega
  have h0 := hn 0 (by decide) (by decide)
  have h1 := hn 1 (by decide) (by decide)
  have h2 := hn 2 (by decide) (by decide)
  have h3 := hn 3 (by decide) (by decide)
  have h4 := hn 4 (by decide) (by decide)
  have h5 := hn 5 (by decide) (by decide)
  have h6 := hn 6 (by decide) (by decide)
  have h7 := hn 7 (by decide) (by decide)
  simp [sp_tell0, h0, h1, h2, h3, h4, h5, h6, h7]
theorem le_max (t : Int32) : t ≤ 2147483647 := by
  have := t.toInt_le
  exact Int32.le_iff_toInt_le.mpr this
theorem bw_ne0 {p hi : Int32} (h : ¬ bw p 1 hi = 0) : ¬ p = 0 := by
  intro e
  subst e
  exact h (by simp [bw])
theorem bw_empty (n : Int32) : bw n 0 (-1) = 0 := by
  unfold bw
  by_cases h1 : n < 0
  · simp [h1]
  · have h2 : -1 < n := by
      rw [Int32.lt_iff_toInt_lt] at h1 ⊢
      have e1 : (0 : Int32).toInt = 0 := rfl
      have e2 : (-1 : Int32).toInt = -1 := rfl
      omega
    simp [h2]
theorem use_m {n : Int32} (h : bw n (-9) 9 = 0) : bw n 0 9 = 0 := by
  unfold bw at h ⊢
  by_cases h1 : n < 0
  · simp [h1]
  · simp only [h1, if_false]
    by_cases h2 : 9 < n
    · simp [h2]
    · have h3 : ¬ n < -9 := by
        rw [Int32.lt_iff_toInt_lt] at h1 ⊢
        have e1 : (0 : Int32).toInt = 0 := rfl
        have e2 : (-9 : Int32).toInt = -9 := rfl
        omega
      simp [h2, h3] at h
theorem ring8 {i : Int32} (h : vp_in i 8) : vp_in ((i + 1) - (i + 1) / 8 * 8) 8 := by
  obtain ⟨j, hj, rfl⟩ := vp_in_of h (by decide)
  rw [nI_1, show (8 : Int32) = nI 8 from rfl, pk_rem (by omega) (by decide) (by decide)]
  exact vp_in_nI (Nat.mod_lt _ (by decide)) (by decide)
def ARel (g : Nat → Int32) (d : Nat → UInt64) (F : Nat → Nat → Int32) (u : SS) : Prop := (∀ k, k ≠ 4 → k ≠ 5 → u.1 k = g k) ∧ u.2.1 = d ∧ (∀ k, k ≠ 1 → u.2.2 k = F k) ∧ vp_in (u.1 4) 8
def NRel (g : Nat → Int32) (d : Nat → UInt64) (F : Nat → Nat → Int32) (u : SS) : Prop := (∀ k, k ≠ 39 → u.1 k = g k) ∧ u.2.1 = d ∧ (∀ k, k ≠ 5 → u.2.2 k = F k)
