theorem i_incS {a : Int32} (h0 : -100 ≤ a.toInt) (h1 : a.toInt ≤ 100) : (a + 1).toInt = a.toInt + 1 := by
  rw [Int32.toInt_add, show (1 : Int32).toInt = 1 from rfl, Int.bmod_eq_of_le (by omega) (by omega)]
theorem i_decS {a : Int32} (h0 : -100 ≤ a.toInt) (h1 : a.toInt ≤ 100) : (a - 1).toInt = a.toInt - 1 := by
  rw [Int32.toInt_sub, show (1 : Int32).toInt = 1 from rfl, Int.bmod_eq_of_le (by omega) (by omega)]
theorem n0 {x : Int32} : x < 0 ↔ x.toInt < 0 := Int32.lt_iff_toInt_lt
/-- the reference's loop: where it is, which way it goes, and that the breaker's trial is as it was let in -/
def JI (pl bk : Int32) (g f : Nat → Int32) : Prop := (-1 ≤ pl.toInt ∧ pl.toInt ≤ (g 3).toInt) ∧ (bk < 0 → pl.toInt < (g 3).toInt) ∧ (¬ bk < 0 → 0 ≤ pl.toInt) ∧ ∀ i : Nat, (i : Int) < (g 3).toInt → f i = 0 → ((bk < 0 ∧ pl.toInt < i) ∨ (¬ bk < 0 ∧ pl.toInt ≤ i)) → TOK g
noncomputable def JA (pl bk : Int32) (g f : Nat → Int32) : Nat := @ite Nat (bk < 0 ∧ ∃ i : Nat, (i : Int) ≤ pl.toInt ∧ (i : Int) < (g 3).toInt ∧ f i = 3) (Classical.propDecidable _) ((g 32).toInt.toNat + 1) (((g 32).toInt - (g 37).toInt).toNat)
def JB (pl bk : Int32) (g : Nat → Int32) : Nat := if bk < 0 then (21 + pl.toInt).toNat else ((g 3).toInt - pl.toInt).toNat
noncomputable def Jm (pl bk : Int32) (g f : Nat → Int32) : Nat := 100 * JA pl bk g f + JB pl bk g
theorem JA_ge {pl bk : Int32} {g f : Nat → Int32} (h : 0 ≤ (g 37).toInt) : ((g 32).toInt - (g 37).toInt).toNat ≤ JA pl bk g f := by
  unfold JA
  split <;> omega
theorem JA_out {pl bk : Int32} {g f : Nat → Int32} (h : ¬ (bk < 0 ∧ ∃ i : Nat, (i : Int) ≤ pl.toInt ∧ (i : Int) < (g 3).toInt ∧ f i = 3)) : JA pl bk g f = ((g 32).toInt - (g 37).toInt).toNat := by
  unfold JA
  rw [if_neg h]
theorem JA_in {pl bk : Int32} {g f : Nat → Int32} (h : bk < 0 ∧ ∃ i : Nat, (i : Int) ≤ pl.toInt ∧ (i : Int) < (g 3).toInt ∧ f i = 3) : JA pl bk g f = (g 32).toInt.toNat + 1 := by
  unfold JA
  rw [if_pos h]
theorem TOK_eq {g g' : Nat → Int32} (h : TOK g) (e18 : g' 18 = g 18) (e23 : g' 23 = g 23) : TOK g' := by
  unfold TOK at *
  rw [e18, e23]
  exact h
theorem J_start {g f : Nat → Int32} {pl : Int32} (hS : Stk (g 3) f) (e : pl = g 3 - 1) : JI pl (-1) g f := by
  have h0 := hS.1
  have h1 := hS.2.1
  have h2 : pl.toInt = (g 3).toInt - 1 := by rw [e]; exact i_decS (by omega) (by omega)
  refine ⟨⟨by omega, by omega⟩, fun _ => by omega, fun h => absurd (by decide) h, fun i hi _ hc => ?_⟩
  rcases hc with ⟨_, hc⟩ | ⟨hc, _⟩
  · omega
  · exact absurd (by decide) hc
theorem J_sup {pl bk r : Int32} {g g' f : Nat → Int32} (h : JI pl bk g f) (hS : Stk (g 3) f) (h37 : 0 ≤ (g 37).toInt) (hb : bk < 0) (hp : ¬ 0 ≤ pl) (hr : 0 ≤ r.toInt) (e3 : g' 3 = g 3) (e32 : g' 32 = g 32) (e18 : g' 18 = g 18) (e23 : g' 23 = g 23) (e37 : g' 37 = g 37) : JI 0 r g' f ∧ Jm 0 r g' f < Jm pl bk g f := by
  have h0 := hS.1
  have h1 := hS.2.1
  have hp' : pl.toInt < 0 := by rw [Int32.le_iff_toInt_le, show (0 : Int32).toInt = 0 from rfl] at hp; omega
  have hr' : ¬ r < 0 := by rw [n0]; omega
  obtain ⟨⟨ha, hb1⟩, -, -, ht⟩ := h
  refine ⟨⟨⟨by decide, by rw [e3, show (0 : Int32).toInt = 0 from rfl]; exact h0⟩, fun c => absurd c hr', fun _ => by decide, fun i hi hf _ => ?_⟩, ?_⟩
  · rw [e3] at hi
    exact TOK_eq (ht i hi hf (Or.inl ⟨hb, by omega⟩)) e18 e23
  · have a1 : JA 0 r g' f = ((g 32).toInt - (g 37).toInt).toNat := by rw [JA_out (fun c => hr' c.1), e32, e37]
    have a2 := JA_ge (pl := pl) (bk := bk) (g := g) (f := f) h37
    have b1 : JB 0 r g' = (g 3).toInt.toNat := by unfold JB; rw [if_neg hr', e3, show (0 : Int32).toInt = 0 from rfl]; omega
    have b2 : JB pl bk g = (21 + pl.toInt).toNat := by unfold JB; rw [if_pos hb]
    unfold Jm
    omega
/-- the kind at a place: another place has another one -/
theorem J_at {pl : Int32} {h : Int32} {f : Nat → Int32} (hS : Stk h f) (h0 : 0 ≤ pl.toInt) (h1 : pl.toInt < h.toInt) : ∃ j : Nat, (j : Int) = pl.toInt ∧ pl.toNatClampNeg = j ∧ (j : Int) < h.toInt ∧ ∀ i : Nat, (i : Int) < h.toInt → f i = f j → i = j := by
  obtain ⟨j, hj, rfl⟩ := vp_in_of (vp_in_iff.mpr ⟨h0, by have := hS.2.1; omega⟩ : vp_in pl 5) (by decide)
  refine ⟨j, (nI_toInt (by omega)).symm, nI_clamp (by omega), by rw [nI_toInt (by omega)] at h1; exact h1, fun i hi he => hS.2.2.2 i j hi (by rw [nI_toInt (by omega)] at h1; exact h1) he⟩
theorem J_ref {pl bk r k : Int32} {g g' f : Nat → Int32} (h : JI pl bk g f) (hS : Stk (g 3) f) (h37 : 0 ≤ (g 37).toInt) (hb : bk < 0) (hp : 0 ≤ pl) (hk : k = f pl.toNatClampNeg) (hr : ¬ r ≤ 0) (e3 : g' 3 = g 3) (e32 : g' 32 = g 32) (e0 : ¬ k = 0 → g' 18 = g 18 ∧ g' 23 = g 23) (e37 : ¬ k = 3 → g' 37 = g 37) (f37 : k = 3 → g' 37 = 1) : JI (pl + 1) r g' f ∧ Jm (pl + 1) r g' f < Jm pl bk g f := by
  have h0 := hS.1
  have h1 := hS.2.1
  rw [Int32.le_iff_toInt_le, show (0 : Int32).toInt = 0 from rfl] at hp
  obtain ⟨-, hlt, -, ht⟩ := h
  have hl := hlt hb
  have hr' : ¬ r < 0 := by rw [Int32.le_iff_toInt_le, show (0 : Int32).toInt = 0 from rfl] at hr; rw [n0]; omega
  have hi1 : (pl + 1).toInt = pl.toInt + 1 := i_incS (by omega) (by omega)
  obtain ⟨j, hj, hc, hj2, hd⟩ := J_at hS hp hl
  rw [hc] at hk
  refine ⟨⟨⟨by omega, by rw [e3]; omega⟩, fun c => absurd c hr', fun _ => by omega, fun i hi hf hcs => ?_⟩, ?_⟩
  · rw [e3] at hi
    rcases hcs with ⟨c, _⟩ | ⟨_, c⟩
    · exact absurd c hr'
    · have hk0 : ¬ k = 0 := fun e => by
        have := hd i hi (by rw [hf, ← hk, e])
        omega
      exact TOK_eq (ht i hi hf (Or.inl ⟨hb, by omega⟩)) (e0 hk0).1 (e0 hk0).2
  · have b1 : JB (pl + 1) r g' = ((g 3).toInt - (pl.toInt + 1)).toNat := by unfold JB; rw [if_neg hr', e3, hi1]
    have b2 : JB pl bk g = (21 + pl.toInt).toNat := by unfold JB; rw [if_pos hb]
    have a1 : JA (pl + 1) r g' f = ((g 32).toInt - (g' 37).toInt).toNat := by rw [JA_out (fun c => hr' c.1), e32]
    by_cases c3 : k = 3
    · have a2 : JA pl bk g f = (g 32).toInt.toNat + 1 := JA_in ⟨hb, j, by omega, hj2, by rw [← hk, c3]⟩
      have a3 : (g' 37).toInt = 1 := by rw [f37 c3]; rfl
      unfold Jm
      omega
    · have a2 := JA_ge (pl := pl) (bk := bk) (g := g) (f := f) h37
      rw [e37 c3] at a1
      unfold Jm
      omega
theorem J_in {pl bk r k : Int32} {g g' f : Nat → Int32} (h : JI pl bk g f) (hS : Stk (g 3) f) (h37 : 0 ≤ (g 37).toInt) (hb : bk < 0) (hp : 0 ≤ pl) (hk : k = f pl.toNatClampNeg) (hr : r ≤ 0) (hr0 : 0 ≤ r.toInt) (e3 : g' 3 = g 3) (e32 : g' 32 = g 32) (hT : k = 0 → r = 0 → TOK g') (e0 : ¬ k = 0 → g' 18 = g 18 ∧ g' 23 = g 23) (e37 : ¬ k = 3 → g' 37 = g 37) (f37 : k = 3 → g' 37 = 1) : JI (pl - 1) (-1) g' f ∧ Jm (pl - 1) (-1) g' f < Jm pl bk g f := by
  have h0 := hS.1
  have h1 := hS.2.1
  rw [Int32.le_iff_toInt_le, show (0 : Int32).toInt = 0 from rfl] at hp
  obtain ⟨-, hlt, -, ht⟩ := h
  have hl := hlt hb
  have hrz : r = 0 := by
    rw [Int32.le_iff_toInt_le, show (0 : Int32).toInt = 0 from rfl] at hr
    exact Int32.toInt_inj.mp (by rw [show (0 : Int32).toInt = 0 from rfl]; omega)
  have hm : (-1 : Int32) < 0 := by decide
  have hi1 : (pl - 1).toInt = pl.toInt - 1 := i_decS (by omega) (by omega)
  obtain ⟨j, hj, hc, hj2, hd⟩ := J_at hS hp hl
  rw [hc] at hk
  refine ⟨⟨⟨by omega, by rw [e3]; omega⟩, fun _ => by rw [e3]; omega, fun c => absurd hm c, fun i hi hf hcs => ?_⟩, ?_⟩
  · rw [e3] at hi
    rcases hcs with ⟨_, c⟩ | ⟨c, _⟩
    · by_cases ij : i = j
      · subst ij
        exact hT (by rw [hk, hf]) hrz
      · have hk0 : ¬ k = 0 := fun e => ij (hd i hi (by rw [hf, ← hk, e]))
        exact TOK_eq (ht i hi hf (Or.inl ⟨hb, by omega⟩)) (e0 hk0).1 (e0 hk0).2
    · exact absurd hm c
  · have b1 : JB (pl - 1) (-1) g' = (21 + (pl.toInt - 1)).toNat := by unfold JB; rw [if_pos hm, hi1]
    have b2 : JB pl bk g = (21 + pl.toInt).toNat := by unfold JB; rw [if_pos hb]
    by_cases c3 : k = 3
    · have a2 : JA pl bk g f = (g 32).toInt.toNat + 1 := JA_in ⟨hb, j, by omega, hj2, by rw [← hk, c3]⟩
      have a3 : (g' 37).toInt = 1 := by rw [f37 c3]; rfl
      have a1 : JA (pl - 1) (-1) g' f = ((g 32).toInt - (g' 37).toInt).toNat := by
        rw [JA_out, e32]
        rintro ⟨-, i, q1, q2, q3⟩
        rw [e3] at q2
        have := hd i q2 (by rw [q3, ← hk, c3])
        omega
      unfold Jm
      omega
    · by_cases ce : ∃ i : Nat, (i : Int) ≤ (pl - 1).toInt ∧ (i : Int) < (g' 3).toInt ∧ f i = 3
      · have a1 : JA (pl - 1) (-1) g' f = (g 32).toInt.toNat + 1 := by rw [JA_in ⟨hm, ce⟩, e32]
        obtain ⟨i, q1, q2, q3⟩ := ce
        have a2 : JA pl bk g f = (g 32).toInt.toNat + 1 := JA_in ⟨hb, i, by omega, by rw [e3] at q2; exact q2, q3⟩
        unfold Jm
        omega
      · have a1 : JA (pl - 1) (-1) g' f = ((g 32).toInt - (g 37).toInt).toNat := by rw [JA_out (fun c => ce c.2), e32, e37 c3]
        have a2 := JA_ge (pl := pl) (bk := bk) (g := g) (f := f) h37
        unfold Jm
        omega
theorem J_up {pl bk b2 k : Int32} {g g' f : Nat → Int32} (h : JI pl bk g f) (hS : Stk (g 3) f) (hb : ¬ bk < 0) (hb2 : ¬ b2 < 0) (hp : ¬ g 3 ≤ pl) (hk : k = f pl.toNatClampNeg) (e3 : g' 3 = g 3) (e32 : g' 32 = g 32) (e0 : ¬ k = 0 → g' 18 = g 18 ∧ g' 23 = g 23) (e37 : g' 37 = g 37) : JI (pl + 1) b2 g' f ∧ Jm (pl + 1) b2 g' f < Jm pl bk g f := by
  have h0 := hS.1
  have h1 := hS.2.1
  obtain ⟨-, -, hge, ht⟩ := h
  have hg := hge hb
  have hl : pl.toInt < (g 3).toInt := i_lt hp
  have hi1 : (pl + 1).toInt = pl.toInt + 1 := i_incS (by omega) (by omega)
  obtain ⟨j, hj, hc, hj2, hd⟩ := J_at hS hg hl
  rw [hc] at hk
  refine ⟨⟨⟨by omega, by rw [e3]; omega⟩, fun c => absurd c hb2, fun _ => by omega, fun i hi hf hcs => ?_⟩, ?_⟩
  · rw [e3] at hi
    rcases hcs with ⟨c, _⟩ | ⟨_, c⟩
    · exact absurd c hb2
    · have hk0 : ¬ k = 0 := fun e => by
        have := hd i hi (by rw [hf, ← hk, e])
        omega
      exact TOK_eq (ht i hi hf (Or.inr ⟨hb, by omega⟩)) (e0 hk0).1 (e0 hk0).2
  · have b1 : JB (pl + 1) b2 g' = ((g 3).toInt - (pl.toInt + 1)).toNat := by unfold JB; rw [if_neg hb2, e3, hi1]
    have b3 : JB pl bk g = ((g 3).toInt - pl.toInt).toNat := by unfold JB; rw [if_neg hb]
    have a1 : JA (pl + 1) b2 g' f = ((g 32).toInt - (g 37).toInt).toNat := by rw [JA_out (fun c => hb2 c.1), e32, e37]
    have a2 : JA pl bk g f = ((g 32).toInt - (g 37).toInt).toNat := JA_out (fun c => hb c.1)
    unfold Jm
    omega
theorem J_retry {pl bk k t : Int32} {g g' f : Nat → Int32} (h : JI pl bk g f) (hS : Stk (g 3) f) (hb : ¬ bk < 0) (hp : ¬ g 3 ≤ pl) (hk : k = f pl.toNatClampNeg) (k3 : k = 3) (hlt : ¬ g 32 ≤ g 37) (e3 : g' 3 = g 3) (e32 : g' 32 = g 32) (e18 : g' 18 = g 18) (e23 : g' 23 = g 23) (e37 : g' 37 = g 37 + 1) : JI (pl - 1) (-1) g' f ∧ Jm (pl - 1) (-1) g' f < Jm pl bk g f := by
  have h0 := hS.1
  have h1 := hS.2.1
  obtain ⟨-, -, hge, ht⟩ := h
  have hg := hge hb
  have hl : pl.toInt < (g 3).toInt := i_lt hp
  have hm : (-1 : Int32) < 0 := by decide
  have hi1 : (pl - 1).toInt = pl.toInt - 1 := i_decS (by omega) (by omega)
  obtain ⟨j, hj, hc, hj2, hd⟩ := J_at hS hg hl
  rw [hc] at hk
  refine ⟨⟨⟨by omega, by rw [e3]; omega⟩, fun _ => by rw [e3]; omega, fun c => absurd hm c, fun i hi hf hcs => ?_⟩, ?_⟩
  · rw [e3] at hi
    rcases hcs with ⟨_, c⟩ | ⟨c, _⟩
    · by_cases ij : i = j
      · subst ij
        rw [← hk, k3] at hf
        exact absurd hf (by decide)
      · exact TOK_eq (ht i hi hf (Or.inr ⟨hb, by omega⟩)) e18 e23
    · exact absurd hm c
  · have b1 : JB (pl - 1) (-1) g' = (21 + (pl.toInt - 1)).toNat := by unfold JB; rw [if_pos hm, hi1]
    have b3 : JB pl bk g = ((g 3).toInt - pl.toInt).toNat := by unfold JB; rw [if_neg hb]
    have a2 : JA pl bk g f = ((g 32).toInt - (g 37).toInt).toNat := JA_out (fun c => hb c.1)
    have e5 := i_inc hlt
    have e6 := i_lt hlt
    have a1 : JA (pl - 1) (-1) g' f = ((g 32).toInt - ((g 37).toInt + 1)).toNat := by
      rw [JA_out, e32, e37, e5]
      rintro ⟨-, i, q1, q2, q3⟩
      rw [e3] at q2
      have := hd i q2 (by rw [q3, ← hk, k3])
      omega
    unfold Jm
    omega
theorem lt_nle {x : Int32} (h : x < 0) : ¬ 0 ≤ x := by rw [n0] at h; rw [Int32.le_iff_toInt_le, show (0 : Int32).toInt = 0 from rfl]; omega
theorem nlt_le {x : Int32} (h : ¬ x < 0) : 0 ≤ x := by rw [n0] at h; rw [Int32.le_iff_toInt_le, show (0 : Int32).toInt = 0 from rfl]; omega
theorem J_ix {pl bk : Int32} {g f : Nat → Int32} (h : JI pl bk g f) (hS : Stk (g 3) f) (c : (bk < 0 ∧ 0 ≤ pl) ∨ (¬ bk < 0 ∧ ¬ g 3 ≤ pl)) : vp_in pl 5 := by
  have h1 := hS.2.1
  refine vp_in_iff.mpr ?_
  rcases c with ⟨c1, c2⟩ | ⟨c1, c2⟩
  · have := h.2.1 c1
    rw [Int32.le_iff_toInt_le, show (0 : Int32).toInt = 0 from rfl] at c2
    omega
  · have := h.2.2.1 c1
    have := i_lt c2
    omega
theorem J_tok {pl bk k : Int32} {g f : Nat → Int32} (h : JI pl bk g f) (hS : Stk (g 3) f) (hb : ¬ bk < 0) (hp : ¬ g 3 ≤ pl) (hk : k = f pl.toNatClampNeg) (k0 : k = 0) : TOK g := by
  obtain ⟨j, hj, hc, hj2, hd⟩ := J_at hS (h.2.2.1 hb) (i_lt hp)
  rw [hc] at hk
  exact h.2.2.2 j hj2 (by rw [← hk, k0]) (Or.inr ⟨hb, by omega⟩)
