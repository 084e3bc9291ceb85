theorem n64_of {r : UInt64} (h : FP.Core.val64 r ≠ .nan) : vf_n64 r := by
  unfold vf_n64
  rw [UInt64.le_iff_toNat_le, UInt64.toNat_and, show (0x7fffffffffffffff : UInt64).toNat = 2 ^ 63 - 1 from rfl, Nat.and_two_pow_sub_one_eq_mod, show (0x7ff0000000000000 : UInt64).toNat = 9218868437227405312 from rfl]
  apply Decidable.byContradiction
  intro hn
  apply h
  show FP.Core.decode FP.Core.b64 r.toNat = .nan
  have hT : FP.Core.b64.tails = 4503599627370496 := rfl
  have hE : FP.Core.b64.exps = 2048 := rfl
  have h1 : FP.Core.fieldE FP.Core.b64 r.toNat = FP.Core.b64.exps - 1 := by
    unfold FP.Core.fieldE
    rw [hT, hE]
    have := r.toNat_lt
    omega
  have h2 : ¬ FP.Core.fieldT FP.Core.b64 r.toNat = 0 := by
    unfold FP.Core.fieldT
    rw [hT]
    have := r.toNat_lt
    omega
  unfold FP.Core.decode
  rw [if_pos h1, if_neg h2]
theorem settle_nn (f : FP.Core.Fmt) (s : Bool) (c : Nat) (q : Int) : FP.Core.settle f s c q ≠ .nan := by
  unfold FP.Core.settle FP.Core.bound
  repeat' split
  all_goals simp
theorem round_nn (f : FP.Core.Fmt) (s : Bool) (c : Nat) (q : Int) : FP.Core.round f (.fin s c q) ≠ .nan := by
  show FP.Core.roundRatio f s c 1 q ≠ .nan
  unfold FP.Core.roundRatio FP.Core.roundAt
  split
  · simp
  · exact settle_nn _ _ _ _
theorem n64_eighth (x : Int32) : vf_n64 (FP.dmul (FP.i2d x) 4593671619917905920) := by
  refine n64_of ?_
  have h := FP.Core.i2d_int x
  unfold FP.Core.DInt at h
  have e : FP.Core.val64 (FP.dmul (FP.i2d x) 4593671619917905920) = FP.Core.round FP.Core.b64 (FP.Core.exactProduct (FP.Core.val64 (FP.Core.i2d x)) (FP.Core.val64 4593671619917905920)) := FP.Core.val64_dmul _ _
  rw [e, show FP.Core.val64 4593671619917905920 = .fin false 4503599627370496 (-55) from by decide +kernel]
  cases hd : FP.Core.val64 (FP.Core.i2d x) with
  | nan => rw [hd] at h; exact absurd h (by simp [FP.Core.Whole])
  | inf s => rw [hd] at h; exact absurd h (by simp [FP.Core.Whole])
  | fin s c q => exact round_nn _ _ _ _
section GL
variable {p : Program} {l : Launch} {e : Env} {R : Room} {s : State} {m : MethodId} {args : Array Value} {below : List Frame} {meth : Method} {c : Code} {cells slots : Nat} {Q : State → Prop}
/-- a loop: a measure that falls, an invariant -/
theorem gl_loop {σ : Type} {pc : Nat} (μ : σ → Nat) (Inv : σ → Heap → List Loc → Array Slot → Prop)
    (hs : ∀ (x : σ) (H : Heap) (locs : List Loc) (ls : Array Slot), Inv x H locs ls → (∀ (y : σ) (H1 : Heap) (locs1 : List Loc) (ls1 : Array Slot), μ y < μ x → Inv y H1 locs1 ls1 → W p l e R s m args below meth c H1 locs1 cells slots Q (F0 m pc ls1 [])) → W p l e R s m args below meth c H locs cells slots Q (F0 m pc ls []))
    (x : σ) (H : Heap) (locs : List Loc) (ls : Array Slot) (h : Inv x H locs ls) : W p l e R s m args below meth c H locs cells slots Q (F0 m pc ls []) := by
  have key : ∀ (n : Nat) (x : σ) (H : Heap) (locs : List Loc) (ls : Array Slot), μ x < n → Inv x H locs ls → W p l e R s m args below meth c H locs cells slots Q (F0 m pc ls []) := by
    intro n
    induction n with
    | zero => intro x H locs ls hn _; exact absurd hn (Nat.not_lt_zero _)
    | succ n ih => intro x H locs ls hn hv; exact hs x H locs ls hv (fun y H1 locs1 ls1 hy hv1 => ih y H1 locs1 ls1 (by omega) hv1)
  exact key _ x H locs ls (Nat.lt_succ_self _) h
/-- roads that come together: what follows is walked once -/
theorem gl_cut {σ : Type} {pc : Nat} {H0 : Heap} {locs0 : List Loc} {g0 : JFrame} (Inv : σ → Heap → List Loc → Array Slot → Prop)
    (k : ∀ (x : σ) (H : Heap) (locs : List Loc) (ls : Array Slot), Inv x H locs ls → W p l e R s m args below meth c H locs cells slots Q (F0 m pc ls []))
    (h : (∀ (x : σ) (H : Heap) (locs : List Loc) (ls : Array Slot), Inv x H locs ls → W p l e R s m args below meth c H locs cells slots Q (F0 m pc ls [])) → W p l e R s m args below meth c H0 locs0 cells slots Q g0) : W p l e R s m args below meth c H0 locs0 cells slots Q g0 := h k
end GL
theorem i_inc {a b : Int32} (h : ¬ b ≤ a) : (a + 1).toInt = a.toInt + 1 := by
  have h1 : a.toInt < b.toInt := by
    rw [Int32.le_iff_toInt_le] at h
    omega
  have h2 := b.toInt_lt
  have h3 := a.le_toInt
  rw [Int32.toInt_add, show (1 : Int32).toInt = 1 from rfl, Int.bmod_eq_of_le (by omega) (by omega)]
theorem i_lt {a b : Int32} (h : ¬ b ≤ a) : a.toInt < b.toInt := by
  rw [Int32.le_iff_toInt_le] at h
  omega
abbrev N1 (x : UInt64) : Prop := FP.Core.val64 x ≠ .nan
abbrev N2 (x : UInt64) : Prop := ∃ s c q, FP.Core.val64 x = .fin s c q ∧ c ≠ 0
abbrev CI (g : Nat → Int32) (d : Nat → UInt64) : Prop := vp_in (g 4) 8 ∧ (0 ≤ (g 5).toInt ∧ (g 5).toInt ≤ 8) ∧ vp_in (g 7) 20 ∧ (0 ≤ (g 8).toInt ∧ (g 8).toInt ≤ 20) ∧ N1 (d 2) ∧ N2 (d 3)
abbrev CP (g : Nat → Int32) (F : Nat → Nat → Int32) (u : SS) : Prop := CI u.1 u.2.1 ∧ u.1 0 = g 0 ∧ u.1 2 = g 2 ∧ u.2.2 0 = F 0
theorem N1_mul {x y : UInt64} (hx : N1 x) (hy : N2 y) : N1 (FP.dmul x y) := by
  obtain ⟨t, c, q, e, hc⟩ := hy
  have h : FP.Core.val64 (FP.dmul x y) = FP.Core.round FP.Core.b64 (FP.Core.exactProduct (FP.Core.val64 x) (FP.Core.val64 y)) := FP.Core.val64_dmul _ _
  show FP.Core.val64 (FP.dmul x y) ≠ .nan
  rw [h, e]
  cases hd : FP.Core.val64 x with
  | nan => exact absurd hd hx
  | inf s => simp [FP.Core.exactProduct, hc, FP.Core.round]
  | fin s c2 q2 => exact round_nn _ _ _ _
theorem i2d_fin (k : Int32) : ∃ s c q, FP.Core.val64 (FP.i2d k) = .fin s c q ∧ (c = 0 → k = 0) := by
  have h : FP.Core.Whole k.toInt (FP.Core.val64 (FP.i2d k)) := FP.Core.i2d_int k
  cases hd : FP.Core.val64 (FP.i2d k) with
  | nan => rw [hd] at h; exact absurd h (by simp [FP.Core.Whole])
  | inf s => rw [hd] at h; exact absurd h (by simp [FP.Core.Whole])
  | fin s c q =>
    refine ⟨s, c, q, rfl, fun hc => ?_⟩
    rw [hd] at h
    subst hc
    have h2 : FP.Core.signed s (0 * 2 ^ q.toNat) = k.toInt * ((2 ^ (-q).toNat : Nat) : Int) := h
    have h3 : FP.Core.signed s (0 * 2 ^ q.toNat) = 0 := by cases s <;> simp [FP.Core.signed]
    rw [h3] at h2
    have h4 : k.toInt = 0 := by
      rcases Int.mul_eq_zero.mp h2.symm with h5 | h5
      · exact h5
      · exact absurd h5 (by have := Nat.two_pow_pos (-q).toNat; omega)
    exact Int32.toInt_inj.mp h4
theorem N1_rate (k : Int32) : N1 (FP.dmul 4636737291354636288 (FP.i2d k)) := by
  obtain ⟨s, c, q, e, -⟩ := i2d_fin k
  have h : FP.Core.val64 (FP.dmul 4636737291354636288 (FP.i2d k)) = FP.Core.round FP.Core.b64 (FP.Core.exactProduct (FP.Core.val64 4636737291354636288) (FP.Core.val64 (FP.i2d k))) := FP.Core.val64_dmul _ _
  show FP.Core.val64 (FP.dmul 4636737291354636288 (FP.i2d k)) ≠ .nan
  rw [h, e, show FP.Core.val64 4636737291354636288 = .fin false 7036874417766400 (-46) from by decide +kernel]
  exact round_nn _ _ _ _
theorem N1_div {x : UInt64} {k : Int32} (hx : N1 x) (hk : ¬ k = 0) : N1 (FP.ddiv x (FP.i2d k)) := by
  obtain ⟨s, c, q, e, hc⟩ := i2d_fin k
  have hc0 : c ≠ 0 := fun h => hk (hc h)
  have h : FP.Core.val64 (FP.ddiv x (FP.i2d k)) = FP.Core.quotient FP.Core.b64 (FP.Core.val64 x) (FP.Core.val64 (FP.i2d k)) := FP.Core.val64_ddiv _ _
  show FP.Core.val64 (FP.ddiv x (FP.i2d k)) ≠ .nan
  rw [h, e]
  cases hd : FP.Core.val64 x with
  | nan => exact absurd hd hx
  | inf t => simp [FP.Core.quotient]
  | fin t c2 q2 =>
    simp only [FP.Core.quotient, hc0, if_false]
    unfold FP.Core.roundRatio FP.Core.roundAt
    split
    · simp
    · exact settle_nn _ _ _ _
theorem kept_up {k : Int32} (h : 0 ≤ k.toInt ∧ k.toInt ≤ 8) (c : ¬ 8 ≤ k) : 0 ≤ (k + 1).toInt ∧ (k + 1).toInt ≤ 8 := by
  have h1 := i_inc c
  have h2 := i_lt c
  rw [show (8 : Int32).toInt = 8 from rfl] at h2
  omega
theorem wait_up {k : Int32} (h : 0 ≤ k.toInt ∧ k.toInt ≤ 20) (c : k < 20) : 0 ≤ (k + 1).toInt ∧ (k + 1).toInt ≤ 20 := by
  have c' : ¬ (20 : Int32) ≤ k := by rw [Int32.le_iff_toInt_le]; rw [Int32.lt_iff_toInt_lt] at c; omega
  have h1 := i_inc c'
  have h2 := i_lt c'
  rw [show (20 : Int32).toInt = 20 from rfl] at h2
  omega
theorem i_dec {k : Int32} (h : 1 ≤ k.toInt) : (k - 1).toInt = k.toInt - 1 := by
  have h3 := k.toInt_lt
  rw [Int32.toInt_sub, show (1 : Int32).toInt = 1 from rfl, Int.bmod_eq_of_le (by omega) (by omega)]
theorem wait_down {k : Int32} (h : 0 ≤ k.toInt ∧ k.toInt ≤ 20) (c : 1 ≤ k) : 0 ≤ (k - 1).toInt ∧ (k - 1).toInt ≤ 20 := by
  rw [Int32.le_iff_toInt_le, show (1 : Int32).toInt = 1 from rfl] at c
  have h1 := i_dec c
  omega
theorem ring20 {i : Int32} (h : vp_in i 20) : vp_in ((i + 1) - (i + 1) / 20 * 20) 20 := by
  obtain ⟨j, hj, rfl⟩ := vp_in_of h (by decide)
  rw [nI_1, show (20 : Int32) = nI 20 from rfl, pk_rem (by omega) (by decide) (by decide)]
  exact vp_in_nI (Nat.mod_lt _ (by decide)) (by decide)
theorem app_in {f w : Int32} (hf : vp_in f 20) (hw : 0 ≤ w.toInt ∧ w.toInt ≤ 20) : vp_in ((f + w) - (f + w) / 20 * 20) 20 := by
  obtain ⟨j, hj, rfl⟩ := vp_in_of hf (by decide)
  obtain ⟨k, hk, rfl⟩ : ∃ k : Nat, k ≤ 20 ∧ w = nI k := nI_of2 (M := 20) (n := 20) rfl (by rw [Int32.lt_iff_toInt_lt, show (0 : Int32).toInt = 0 from rfl]; omega) (by rw [Int32.le_iff_toInt_le, show (20 : Int32).toInt = 20 from rfl]; omega)
  rw [nI_add, show (20 : Int32) = nI 20 from rfl, pk_rem (by omega) (by decide) (by decide)]
  exact vp_in_nI (Nat.mod_lt _ (by decide)) (by decide)
theorem latest_in {n t k : Int32} (hn : vp_in n 8) (ht : 0 ≤ t.toInt ∧ t.toInt ≤ 8) (h0 : ¬ k < 0) (h1 : k < t) : vp_in ((n + 8 - 1 - k) - (n + 8 - 1 - k) / 8 * 8) 8 := by
  obtain ⟨j, hj, rfl⟩ := vp_in_of hn (by decide)
  rw [Int32.lt_iff_toInt_lt] at h1
  obtain ⟨b, hb, rfl⟩ : ∃ b : Nat, b ≤ 7 ∧ k = nI b := nI_of2 (M := 7) (n := 7) rfl h0 (by rw [Int32.le_iff_toInt_le, show (7 : Int32).toInt = 7 from rfl]; omega)
  rw [show (8 : Int32) = nI 8 from rfl, show (1 : Int32) = nI 1 from rfl, nI_add, pk_sub (by omega), pk_sub (by omega), pk_rem (by omega) (by decide) (by decide)]
  exact vp_in_nI (Nat.mod_lt _ (by decide)) (by decide)
theorem nz_of {k : Int32} (h : 1 ≤ k) : ¬ k = 0 := fun e => by rw [e] at h; exact absurd h (by decide)
theorem nar_b {r : Int32} (h : r = 0 ∨ r = 1) : narrow .boolean (.int r) = .int r := by rcases h with h | h <;> rw [h] <;> rfl
def spu (u n : Int32) : Int32 := if bw n (-u) (9 - u) = 0 then 0 else 1
theorem cv_nan {v w : UInt64} (h : FP.Core.val64 v = .nan) : Op.cmpValue (FP.dcmp v w) .l = -1 := by
  have h1 : FP.dcmp v w = none := (FP.Core.dcmp_none v w).mpr (Or.inl h)
  rw [h1]
  rfl
theorem bb_N1 {v lo hi : UInt64} (h : ¬ bb v lo hi = 0) : N1 v := by
  intro hv
  apply h
  unfold bb
  rw [cv_nan hv, if_pos (by decide)]
theorem bb_N2 {v : UInt64} (h : ¬ bb v 4602678819172646912 4616189618054758400 = 0) : N2 v := by
  have e1 : FP.Core.val64 4602678819172646912 = .fin false 4503599627370496 (-53) := by decide +kernel
  have e2 : FP.Core.val64 4616189618054758400 = .fin false 4503599627370496 (-50) := by decide +kernel
  have d1 : ∀ w : UInt64, FP.dcmp v w = FP.Core.order (FP.Core.val64 v) (FP.Core.val64 w) := fun w => rfl
  cases hd : FP.Core.val64 v with
  | nan => exact absurd hd (bb_N1 h)
  | inf s =>
    exfalso
    apply h
    unfold bb
    cases s with
    | true => rw [d1, hd, e1, if_pos (by decide)]
    | false => rw [d1, d1, hd, e1, e2, if_neg (by decide), if_pos (by decide)]
  | fin s c q =>
    refine ⟨s, c, q, hd, fun hc => ?_⟩
    subst hc
    apply h
    unfold bb
    rw [d1, hd, e1, if_pos]
    have h3 : FP.Core.signed s (FP.Core.inUnits 0 q (min q (-53))) = 0 := by cases s <;> simp [FP.Core.signed, FP.Core.inUnits]
    have h4 : 0 < FP.Core.signed false (FP.Core.inUnits 4503599627370496 (-53) (min q (-53))) := by
      show (0 : Int) < ((4503599627370496 * 2 ^ ((-53 : Int) - min q (-53)).toNat : Nat) : Int)
      have := Nat.two_pow_pos ((-53 : Int) - min q (-53)).toNat
      omega
    show Op.cmpValue (some (compare (FP.Core.signed s (FP.Core.inUnits 0 q (min q (-53)))) (FP.Core.signed false (FP.Core.inUnits 4503599627370496 (-53) (min q (-53)))))) .l < 0
    rw [h3]
    have h5 : compare (0 : Int) (FP.Core.signed false (FP.Core.inUnits 4503599627370496 (-53) (min q (-53)))) = .lt := by
      rw [compare, instOrdInt]
      simp only [compareOfLessAndEq, h4, if_true]
    rw [h5]
    decide
theorem lev_in {v : Int32} (h1 : ¬ v < 1) (h2 : v ≤ 5) : vp_in (v - 1) 5 := by
  rw [Int32.lt_iff_toInt_lt, show (1 : Int32).toInt = 1 from rfl] at h1
  rw [Int32.le_iff_toInt_le, show (5 : Int32).toInt = 5 from rfl] at h2
  have h := i_dec (k := v) (by omega)
  exact vp_in_iff.mpr ⟨by omega, by omega⟩
