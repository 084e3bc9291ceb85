abbrev zv (x : UInt64) : Int := FP.Core.zval FP.Core.b64 (FP.Core.val64 x)
abbrev zo : Int := (FP.Core.one64 : Int)
/-- how far one call can move the clock, by the policies' number -/
def adv : Nat → Nat
  | 0 => 50
  | n + 1 => 5 * adv n + 600
theorem adv5 : adv 5 = 624850 := rfl
abbrev CI (bd : Nat) (g : Nat → Int32) (d : Nat → UInt64) (F : Nat → Nat → Int32) : Prop := CI0 g d ∧ (0 ≤ (g 6).toInt ∧ (g 6).toInt ≤ (bd : Int)) ∧ (0 ≤ (g 25).toInt ∧ (g 25).toInt * (g 22).toInt ≤ (bd : Int)) ∧ (1 ≤ (g 22).toInt ∧ (g 22).toInt ≤ 50) ∧ (g 24).toInt ≤ 100 ∧ (g 27).toInt ≤ 5 ∧ (0 ≤ (g 3).toInt ∧ (g 3).toInt ≤ 100) ∧ (0 ≤ zv (d 2) ∧ 0 ≤ zv (d 3)) ∧ (N1 (d 4) ∧ 0 ≤ zv (d 4) ∧ zv (d 4) ≤ 100 * zo) ∧ ∀ i : Nat, 0 ≤ (F 3 i).toInt ∧ (F 3 i).toInt ≤ 50
abbrev CP (bd : Nat) (g : Nat → Int32) (F : Nat → Nat → Int32) (u : SS) : Prop := CI bd u.1 u.2.1 u.2.2 ∧ u.1 0 = g 0 ∧ u.1 2 = g 2 ∧ u.2.2 0 = F 0
theorem CI_mono {b b1 : Nat} {g : Nat → Int32} {d : Nat → UInt64} {F : Nat → Nat → Int32} (h : b ≤ b1) (hI : CI b g d F) : CI b1 g d F := by
  have h0 := hI.2.1.2
  have h1 := hI.2.2.1.2
  exact ⟨hI.1, ⟨hI.2.1.1, by omega⟩, ⟨hI.2.2.1.1, by omega⟩, hI.2.2.2⟩
theorem CI_c0 {b : Nat} {g : Nat → Int32} {d : Nat → UInt64} {F : Nat → Nat → Int32} (hI : CI b g d F) : CI b (upd g 25 0) d F :=
  ⟨hI.1, hI.2.1, ⟨by show 0 ≤ (0 : Int32).toInt; decide, by show (0 : Int32).toInt * (g 22).toInt ≤ (b : Int); rw [show (0 : Int32).toInt = 0 from rfl]; omega⟩, hI.2.2.2⟩
theorem per1 {b : Nat} {g : Nat → Int32} {d : Nat → UInt64} {F : Nat → Nat → Int32} (hI : CI b g d F) : 1 ≤ (g 22).toInt := hI.2.2.2.1.1
theorem ge_1 {k : Int32} (h : 1 ≤ k.toInt) : 1 ≤ k := by rw [Int32.le_iff_toInt_le, show (1 : Int32).toInt = 1 from rfl]; exact h
theorem bwz {v lo hi : Int32} {x y : Int} (hx : lo.toInt = x) (hy : hi.toInt = y) (h : ¬ bw v lo hi = 0) : x ≤ v.toInt ∧ v.toInt ≤ y := by
  unfold bw at h
  by_cases c1 : v < lo
  · rw [if_pos c1] at h; exact absurd rfl h
  · rw [if_neg c1] at h
    by_cases c2 : hi < v
    · rw [if_pos c2] at h; exact absurd rfl h
    · rw [Int32.lt_iff_toInt_lt] at c1 c2; omega
theorem lap_x {dl now : Int32} (h0 : 0 ≤ dl.toInt) (h1 : 0 ≤ now.toInt) : (dl - now).toInt = dl.toInt - now.toInt := by
  have h2 := dl.toInt_lt
  have h3 := now.toInt_lt
  rw [Int32.toInt_sub, Int.bmod_eq_of_le (by omega) (by omega)]
theorem lap_lt {t dl now x : Int32} (h0 : 0 ≤ dl.toInt) (h1 : 0 ≤ now.toInt) (e : x = dl - now) (c : ¬ t ≤ x) : dl.toInt < now.toInt + t.toInt := by
  rw [Int32.le_iff_toInt_le, e, lap_x h0 h1] at c
  omega
theorem lap_go {t now x : Int32} {b : Nat} (h : 0 ≤ now.toInt + t.toInt ∧ now.toInt + t.toInt ≤ (b : Int)) (hb : b ≤ 2000000000) (e : x = now + t) : 0 ≤ x.toInt ∧ x.toInt ≤ (b : Int) := by
  rw [e, Int32.toInt_add, Int.bmod_eq_of_le (by omega) (by omega)]
  exact h
theorem lat_rng {b : Nat} {g : Nat → Int32} {d : Nat → UInt64} {F : Nat → Nat → Int32} {x : Int32} {i : Nat} (hI : CI b g d F) (e : x = F 3 i) : 0 ≤ (g 6).toInt + x.toInt ∧ (g 6).toInt + x.toInt ≤ ((b + 50 : Nat) : Int) := by
  have h1 := hI.2.1
  have h2 := hI.2.2.2.2.2.2.2.2.2 i
  rw [← e] at h2
  omega
theorem add_rng {b : Nat} {g : Nat → Int32} {d : Nat → UInt64} {F : Nat → Nat → Int32} {x : Int32} (hI : CI b g d F) (h : 0 ≤ x.toInt ∧ x.toInt ≤ 100) : 0 ≤ (g 6).toInt + x.toInt ∧ (g 6).toInt + x.toInt ≤ ((b + 100 : Nat) : Int) := by
  have h1 := hI.2.1
  omega
theorem dl_rng {b : Nat} {g : Nat → Int32} {d : Nat → UInt64} {F : Nat → Nat → Int32} (hI : CI b g d F) (h : b ≤ 2000000000) : 0 ≤ (g 6 + g 3).toInt := by
  have h1 := hI.2.1
  have h2 := hI.2.2.2.2.2.2.1
  rw [Int32.toInt_add, Int.bmod_eq_of_le (by omega) (by omega)]
  omega
theorem tick_rng {b : Nat} {g g1 : Nat → Int32} {d : Nat → UInt64} {F : Nat → Nat → Int32} {x y t : Int32} (hI : CI b g d F) (hB : b + 100 ≤ 2000000000) (e1 : x = g 25 + 1) (e2 : y = x * g 22) (e3 : t = y - g 6) (c : t ≤ g 24) (hk : g1 6 = g 6) : 0 ≤ (g1 6).toInt + t.toInt ∧ (g1 6).toInt + t.toInt ≤ ((b + 100 : Nat) : Int) := by
  rw [hk]
  obtain ⟨-, ⟨n0, n1⟩, ⟨c0, c1⟩, ⟨p0, p1⟩, hw, -⟩ := hI
  have h1 : (g 25).toInt ≤ (g 25).toInt * (g 22).toInt := by
    have := Int.mul_le_mul_of_nonneg_left p0 c0
    omega
  have h2 : x.toInt = (g 25).toInt + 1 := by
    rw [e1, Int32.toInt_add, show (1 : Int32).toInt = 1 from rfl, Int.bmod_eq_of_le (by omega) (by omega)]
  have h3 : ((g 25).toInt + 1) * (g 22).toInt = (g 25).toInt * (g 22).toInt + (g 22).toInt := by rw [Int.add_mul, Int.one_mul]
  have h4 : y.toInt = (g 25).toInt * (g 22).toInt + (g 22).toInt := by
    have h0 : 0 ≤ (g 25).toInt * (g 22).toInt := Int.mul_nonneg c0 (by omega)
    rw [e2, Int32.toInt_mul, h2, h3, Int.bmod_eq_of_le (by omega) (by omega)]
  have h0 : 0 ≤ (g 25).toInt * (g 22).toInt := Int.mul_nonneg c0 (by omega)
  have h5 : t.toInt = y.toInt - (g 6).toInt := by
    rw [e3, Int32.toInt_sub, Int.bmod_eq_of_le (by omega) (by omega)]
  rw [Int32.le_iff_toInt_le] at c
  omega
theorem cyc_new {b : Nat} {n p r : Int32} (e : r = n / p) (hn : 0 ≤ n.toInt ∧ n.toInt ≤ (b : Int)) (hp : 1 ≤ p.toInt ∧ p.toInt ≤ 50) : 0 ≤ r.toInt ∧ r.toInt * p.toInt ≤ (b : Int) := by
  have h1 : r.toInt = n.toInt / p.toInt := by
    have h0 := n.toInt_lt
    have h3 : 0 ≤ n.toInt / p.toInt := Int.ediv_nonneg hn.1 (by omega)
    have h4 : n.toInt / p.toInt ≤ n.toInt := Int.ediv_le_self _ hn.1
    rw [e, Int32.toInt_div, Int.tdiv_eq_ediv_of_nonneg hn.1, Int.bmod_eq_of_le (by omega) (by omega)]
  rw [h1]
  exact ⟨Int.ediv_nonneg hn.1 (by omega), by have := Int.ediv_mul_le n.toInt (show p.toInt ≠ 0 by omega); omega⟩
theorem ci_lim {b : Nat} {g : Nat → Int32} {d : Nat → UInt64} {F : Nat → Nat → Int32} {p l w : Int32} (hI : CI b g d F) (hp : 1 ≤ p.toInt ∧ p.toInt ≤ 50) (hw : 0 ≤ w.toInt ∧ w.toInt ≤ 100) : CI b (upd (upd (upd (upd g 22 p) 23 l) 24 w) 25 0) d F :=
  ⟨hI.1, hI.2.1, ⟨by show 0 ≤ (0 : Int32).toInt; decide, by show (0 : Int32).toInt * p.toInt ≤ (b : Int); rw [show (0 : Int32).toInt = 0 from rfl]; omega⟩, hp, hw.2, hI.2.2.2.2.2⟩
theorem lat_upd {f : Nat → Int32} {k : Nat} {v : Int32} (h : ∀ i : Nat, 0 ≤ (f i).toInt ∧ (f i).toInt ≤ 50) (hv : 0 ≤ v.toInt ∧ v.toInt ≤ 50) : ∀ i : Nat, 0 ≤ (upd f k v i).toInt ∧ (upd f k v i).toInt ≤ 50 := by
  intro i
  unfold upd
  split
  · exact hv
  · exact h i
theorem pass_one {r : Int32} {x : Int} (h : (r = 0 ∧ (2147483647 : Int32).toInt < x) ∨ r = 1) (hx : x ≤ 2000000000) : r = 1 := by
  rcases h with ⟨-, h⟩ | h
  · rw [show (2147483647 : Int32).toInt = 2147483647 from rfl] at h; omega
  · exact h
theorem cmp_ge {a b : UInt64} (ha : N1 a) (hb : N1 b) (c : (0 : Int32) ≤ Op.cmpValue (FP.dcmp a b) .g) : zv b ≤ zv a := by
  apply Decidable.byContradiction
  intro h
  have h1 : FP.dcmp a b = some .lt := FP.Core.dcmp_lt.mpr ⟨ha, hb, Int.not_le.mp h⟩
  rw [h1] at c
  exact absurd c (by decide)
theorem bb_rng {v lo hi : UInt64} (h : ¬ bb v lo hi = 0) (hl : N1 lo) (hh : N1 hi) : zv lo ≤ zv v ∧ zv v ≤ zv hi := by
  have hv := bb_N1 h
  constructor
  · apply Decidable.byContradiction
    intro q
    have h1 : FP.dcmp v lo = some .lt := FP.Core.dcmp_lt.mpr ⟨hv, hl, Int.not_le.mp q⟩
    unfold bb at h
    rw [h1, if_pos (by decide)] at h
    exact h rfl
  · apply Decidable.byContradiction
    intro q
    have h1 : FP.dcmp v hi = some .gt := FP.Core.dcmp_gt.mpr ⟨hv, hh, Int.not_le.mp q⟩
    unfold bb at h
    by_cases c : Op.cmpValue (FP.dcmp v lo) .l < 0
    · rw [if_pos c] at h; exact h rfl
    · rw [if_neg c, h1, if_pos (by decide)] at h; exact h rfl
theorem n_0 : N1 FP.dconst0 := by show FP.Core.val64 FP.dconst0 ≠ .nan; decide +kernel
theorem n_50 : N1 4632233691727265792 := by show FP.Core.val64 4632233691727265792 ≠ .nan; decide +kernel
theorem n_100 : N1 4636737291354636288 := by show FP.Core.val64 4636737291354636288 ≠ .nan; decide +kernel
theorem n_h : N1 4602678819172646912 := by show FP.Core.val64 4602678819172646912 ≠ .nan; decide +kernel
theorem n_4 : N1 4616189618054758400 := by show FP.Core.val64 4616189618054758400 ≠ .nan; decide +kernel
theorem z_0 : zv FP.dconst0 = 0 := by show FP.Core.zval FP.Core.b64 (FP.Core.val64 FP.dconst0) = 0; decide +kernel
theorem z_h : 0 ≤ zv 4602678819172646912 := by show 0 ≤ FP.Core.zval FP.Core.b64 (FP.Core.val64 4602678819172646912); decide +kernel
theorem z_100 : zv 4636737291354636288 = 100 * zo := by show FP.Core.zval FP.Core.b64 (FP.Core.val64 4636737291354636288) = 100 * (FP.Core.one64 : Int); decide +kernel
theorem first_0 {v : UInt64} (h : ¬ bb v FP.dconst0 4632233691727265792 = 0) : 0 ≤ zv v := by have := bb_rng h n_0 n_50; rw [z_0] at this; exact this.1
theorem times_0 {v : UInt64} (h : ¬ bb v 4602678819172646912 4616189618054758400 = 0) : 0 ≤ zv v := Int.le_trans z_h (bb_rng h n_h n_4).1
theorem most_0 {v : UInt64} (h : ¬ bb v FP.dconst0 4636737291354636288 = 0) : N1 v ∧ 0 ≤ zv v ∧ zv v ≤ 100 * zo := by
  have := bb_rng h n_0 n_100
  rw [z_0, z_100] at this
  exact ⟨bb_N1 h, this⟩
theorem P0_mul {x y : UInt64} (hx : N1 x) (hy : N2 y) (hx0 : 0 ≤ zv x) (hy0 : 0 ≤ zv y) : 0 ≤ zv (FP.dmul x y) := by
  obtain ⟨t, c, q, e, hc⟩ := hy
  have h : FP.Core.val64 (FP.dmul x y) = FP.Core.round FP.Core.b64 (FP.Core.exactProduct (FP.Core.val64 x) (FP.Core.val64 y)) := FP.Core.val64_dmul _ _
  unfold zv at hx0 hy0 ⊢
  rw [h, e]
  rw [e] at hy0
  have ht : t = false := by
    cases t with
    | false => rfl
    | true =>
      exfalso
      have h2 : 0 ≤ -((c * 2 ^ (q - FP.Core.b64.qmin).toNat : Nat) : Int) := hy0
      have h3 := Nat.mul_pos (Nat.pos_of_ne_zero hc) (Nat.two_pow_pos (q - FP.Core.b64.qmin).toNat)
      omega
  subst ht
  cases hd : FP.Core.val64 x with
  | nan => exact absurd hd hx
  | inf s =>
    rw [hd] at hx0
    have hs : s = false := by
      cases s with
      | false => rfl
      | true =>
        exfalso
        revert hx0
        decide +kernel
    subst hs
    simp only [FP.Core.exactProduct, hc, if_false]
    decide +kernel
  | fin s c2 q2 =>
    rw [hd] at hx0
    have e0 : FP.Core.exactProduct (.fin s c2 q2) (.fin false c q) = .fin (s != false) (c2 * c) (q2 + q) := rfl
    rw [e0]
    have hz : FP.Core.zval FP.Core.b64 (FP.Core.val64 0) = 0 := FP.Core.zval64_zero
    have key := FP.Core.zval_round_ge FP.Core.good_b64 (s := (s != false)) (c := c2 * c) (q := q2 + q) (e0 := min FP.Core.b64.qmin (q2 + q)) (V := FP.Core.val64 0) (FP.Core.val64_fits 0) (by decide +kernel) (Int.min_le_left _ _) (Int.min_le_right _ _) (by
      rw [hz, Int.zero_mul]
      cases s with
      | false => exact Int.natCast_nonneg _
      | true =>
        have h2 : 0 ≤ -((c2 * 2 ^ (q2 - FP.Core.b64.qmin).toNat : Nat) : Int) := hx0
        have h3 : c2 * 2 ^ (q2 - FP.Core.b64.qmin).toNat = 0 := by omega
        have h4 : c2 = 0 := by
          rcases Nat.mul_eq_zero.mp h3 with h5 | h5
          · exact h5
          · exact absurd h5 (Nat.ne_of_gt (Nat.two_pow_pos _))
        subst h4
        rw [Nat.zero_mul]
        simp [FP.Core.signed, FP.Core.inUnits])
    rw [hz] at key
    exact key
theorem d2i_100 {x : UInt64} (h : N1 x) (h0 : 0 ≤ zv x) (h1 : zv x ≤ 100 * zo) : 0 ≤ (FP.d2i x).toInt ∧ (FP.d2i x).toInt ≤ 100 := by
  have e := FP.Core.d2i_val h
  have hp := FP.Core.one64_pos
  unfold zv zo at *
  obtain ⟨i, a, b, -, -⟩ := FP.Core.cut_pos (s := FP.Core.sgn (FP.Core.val64 x)) (m := FP.Core.zmag FP.Core.b64 (FP.Core.val64 x)) (P := FP.Core.one64) (k := 101) hp h0 (by
    have h2 : FP.Core.signed (FP.Core.sgn (FP.Core.val64 x)) (FP.Core.zmag FP.Core.b64 (FP.Core.val64 x)) ≤ 100 * (FP.Core.one64 : Int) := h1
    generalize FP.Core.signed (FP.Core.sgn (FP.Core.val64 x)) (FP.Core.zmag FP.Core.b64 (FP.Core.val64 x)) = z at *
    generalize FP.Core.one64 = o at *
    omega)
  rw [show FP.d2i x = FP.Core.d2i x from rfl, e, a]
  omega
def rb (b A : Nat) (y : Int32) : Nat := b + (y.toInt.toNat - 1) * (A + 100)
theorem rb_1 {b A : Nat} : rb b A 1 = b := by
  unfold rb
  rw [show (1 : Int32).toInt.toNat - 1 = 0 from rfl, Nat.zero_mul, Nat.add_zero]
theorem rb_next {b A : Nat} {x y : Int32} (h : 1 ≤ y.toInt) (e : x.toInt = y.toInt + 1) : rb b A y + A + 100 = rb b A x := by
  unfold rb
  rw [e, show (y.toInt + 1).toNat - 1 = (y.toInt.toNat - 1) + 1 by omega, Nat.succ_mul]
  omega
theorem rb_le {b A : Nat} {y : Int32} (h : y.toInt ≤ 5) : rb b A y ≤ b + (4 * A + 400) := by
  unfold rb
  have h1 : (y.toInt.toNat - 1) * (A + 100) ≤ 4 * (A + 100) := Nat.mul_le_mul_right _ (by omega)
  omega
theorem adv_s (n : Nat) : adv (n + 1) = 5 * adv n + 600 := rfl
theorem ci_now {b b1 : Nat} {g : Nat → Int32} {d : Nat → UInt64} {F : Nat → Nat → Int32} {v : Int32} (hI : CI b g d F) (hb : b ≤ b1) (h : 0 ≤ v.toInt ∧ v.toInt ≤ (b1 : Int)) : CI b1 (upd g 6 v) d F :=
  ⟨hI.1, h, ⟨hI.2.2.1.1, by have h1 := hI.2.2.1.2; show (g 25).toInt * (g 22).toInt ≤ (b1 : Int); omega⟩, hI.2.2.2⟩
