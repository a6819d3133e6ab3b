/-! the class against the model's rows -/
def CV (G : GG) (X z : Nat) (K N : Nat → Nat) (I : MI) (R : MR) (r : Option Nat) (f : Nat → Int) (g : Nat) : Prop :=
  (r = none ∧ f (24 + 36 * g) = 0) ∨ ∃ c : Nat, r = some c ∧ X ≤ c ∧ zK G z K c 0 ∧ zK G z K (c + 1) 9 ∧ R c 0 = some (c + 1) ∧ (N (c + 1) : Int) = 2 * f 3 ∧ f (24 + 36 * g) = 1 ∧ I c 1 = f (25 + 36 * g) ∧ I c 2 = f (26 + 36 * g) ∧ ∀ k : Nat, (k : Int) < 2 * f 3 → I (c + 1) k = f (28 + 36 * g + k)
def TQ (G : GG) (X z : Nat) (K N : Nat → Nat) (I : MI) (R : MR) (t : Nat) (f : Nat → Int) : Prop :=
  ShT G z K N R t ∧ TN I t f ∧ Ok f ∧ ∀ g : Nat, (g : Int) < f 5 → CV G X z K N I R (R (t + 4 + g) 4) f g
/-- certificates stay -/
def CK (X z : Nat) (K N : Nat → Nat) (I : MI) (R : MR) (z' : Nat) (K' N' : Nat → Nat) (I' : MI) (R' : MR) : Prop :=
  z ≤ z' ∧ (∀ a : Nat, a < z → K' a = K a ∧ N' a = N a) ∧ ∀ c : Nat, X ≤ c → c + 1 < z → K c = 0 → K (c + 1) = 9 → I' c = I c ∧ R' c = R c ∧ I' (c + 1) = I (c + 1)
theorem CV.keep {G : GG} {X z z' : Nat} {K N K' N' : Nat → Nat} {I I' : MI} {R R' : MR} {r : Option Nat} {f : Nat → Int} {g : Nat} (h : CV G X z K N I R r f g) (hc : CK X z K N I R z' K' N' I' R') : CV G X z' K' N' I' R' r f g := by
  rcases h with h | ⟨c, h1, h2, h3, h4, h5, h6, h7, h8, h9, ha⟩
  · exact Or.inl h
  · obtain ⟨c1, c2, c3⟩ := hc
    obtain ⟨d1, d2, d3⟩ := c3 c h2 h4.2.1 h3.2.2 h4.2.2
    refine Or.inr ⟨c, h1, h2, zK_mono h3 c1 (c2 c h3.2.1).1, zK_mono h4 c1 (c2 _ h4.2.1).1, ?_, ?_, h7, ?_, ?_, fun k hk => ?_⟩
    · rw [d2]; exact h5
    · rw [(c2 _ h4.2.1).2]; exact h6
    · rw [d1]; exact h8
    · rw [d1]; exact h9
    · rw [d3]; exact ha k hk
theorem CV.cong {G : GG} {X z : Nat} {K N : Nat → Nat} {I : MI} {R : MR} {r : Option Nat} {f f' : Nat → Int} {g : Nat} (h : CV G X z K N I R r f g) (h3 : f' 3 = f 3) (hj : ∀ j : Nat, 24 ≤ j → j < 28 + (2 * f 3).toNat → f' (j + 36 * g) = f (j + 36 * g)) (h0 : 0 ≤ f 3) : CV G X z K N I R r f' g := by
  have e : ∀ j : Nat, 24 ≤ j → j < 28 + (2 * f 3).toNat → f' (j + 36 * g) = f (j + 36 * g) := hj
  rcases h with ⟨h1, h2⟩ | ⟨c, h1, h2, h3b, h4, h5, h6, h7, h8, h9, ha⟩
  · exact Or.inl ⟨h1, by rw [e 24 (by omega) (by omega)]; exact h2⟩
  · refine Or.inr ⟨c, h1, h2, h3b, h4, h5, by rw [h3]; exact h6, ?_, ?_, ?_, fun k hk => ?_⟩
    · rw [e 24 (by omega) (by omega)]; exact h7
    · rw [e 25 (by omega) (by omega)]; exact h8
    · rw [e 26 (by omega) (by omega)]; exact h9
    · rw [h3] at hk
      rw [show 28 + 36 * g + k = (28 + k) + 36 * g by omega, e (28 + k) (by omega) (by omega), show (28 + k) + 36 * g = 28 + 36 * g + k by omega]
      exact ha k hk
theorem TQ.keep {G : GG} {X z z' : Nat} {K N K' N' : Nat → Nat} {I I' : MI} {R R' : MR} {t : Nat} {f : Nat → Int} (h : TQ G X z K N I R t f) (hc : CK X z K N I R z' K' N' I' R') (hk : ∀ a : Nat, t ≤ a → a < t + 10 → I' a = I a ∧ R' a = R a) : TQ G X z' K' N' I' R' t f := by
  obtain ⟨a, b, c, d⟩ := h
  have h5 := c.2.2.2.2.2.1
  have hz := (a.2.2.2.2 5 (by omega)).1.2.1
  refine ⟨a.mono hc.1 fun q h1 h2 => ⟨(hc.2.1 q (by omega)).1, (hc.2.1 q (by omega)).2, (hk q h1 h2).2⟩, b.keep (fun q h1 h2 => (hk q h1 h2).1) h5.2, c, fun g hg => ?_⟩
  rw [(hk (t + 4 + g) (by omega) (by omega)).2]
  exact (d g hg).keep hc
theorem TQ.cong {G : GG} {X z : Nat} {K N : Nat → Nat} {I : MI} {R : MR} {t : Nat} {f f' : Nat → Int} (h : TQ G X z K N I R t f) (e : ∀ j : Nat, j < 236 → f' j = f j) : TQ G X z K N I R t f' := by
  obtain ⟨a, b, c, d⟩ := h
  have h3 := c.2.2.2.1
  have h5 := c.2.2.2.2.2.1
  refine ⟨a, ?_, ?_, fun g hg => ?_⟩
  · obtain ⟨⟨b0, b1, b2⟩, ⟨b3, b4, b5⟩, b6, b7⟩ := b
    unfold TN
    rw [e 0 (by omega), e 1 (by omega), e 2 (by omega), e 3 (by omega), e 4 (by omega), e 5 (by omega)]
    exact ⟨⟨b0, b1, b2⟩, ⟨b3, b4, b5⟩, fun r hr => by rw [e _ (by omega)]; exact b6 r hr, fun g hg => by rw [e _ (by omega), e _ (by omega), e _ (by omega), e _ (by omega)]; exact b7 g hg⟩
  · obtain ⟨a0, a1, a2, a3, a4, a5, a6, a7⟩ := c
    unfold Ok
    rw [e 0 (by omega), e 1 (by omega), e 2 (by omega), e 3 (by omega), e 4 (by omega), e 5 (by omega)]
    exact ⟨a0, a1, a2, a3, a4, a5, fun r hr => by rw [e _ (by omega)]; exact a6 r hr, fun g hg => by rw [e _ (by omega), e _ (by omega), e _ (by omega), e _ (by omega), e _ (by omega)]; exact a7 g hg⟩
  · rw [e 5 (by omega)] at hg
    exact (d g hg).cong (e 3 (by omega)) (fun j j1 j2 => e _ (by omega)) h3.1
def POk (P : Nat → Int) (len : Int) : Prop := (0 ≤ len ∧ len ≤ 80) ∧ ∀ i : Nat, i < 80 → 0 ≤ P i ∧ P i ≤ 126
/-- a state of the history: j-th of n, next at p -/
def hiA (x : Nat) (p n : Int) (j : Nat) : Nat := x + 13 + 10 * ((p.toNat + 7 - n.toNat + j) % 7)
abbrev SlQ (G : GG) (X z : Nat) (K N : Nat → Nat) (I : MI) (R : MR) (r : Option Nat) (v : Int) (f : Nat → Int) : Prop := (r = none ∧ v = 0) ∨ ∃ sl : Nat, r = some sl ∧ v = 1 ∧ X ≤ sl ∧ TQ G X z K N I R sl f
def CI (G : GG) (x z : Nat) (K N : Nat → Nat) (I : MI) (R : MR) (f h s v P : Nat → Int) (n len : Int) : Prop :=
  (zK G z K x 6 ∧ R x 0 = some (x + 1) ∧ R x 1 = some (x + 11) ∧ R x 2 = some (x + 83) ∧ R x 3 = some (x + 84) ∧ R x 4 = some (x + 89)) ∧
  (ShH G z K N R (x + 11) ∧ (zK G z K (x + 83) 11 ∧ N (x + 83) = 2) ∧ ShX G z K N R (x + 84) ∧ ShP G z K N R (x + 89)) ∧
  TQ G (x + 100) z K N I R (x + 1) f ∧
  ((0 ≤ I (x + 11) 1 ∧ I (x + 11) 1 ≤ 6) ∧ I (x + 11) 2 = n ∧ (0 ≤ n ∧ n ≤ 6) ∧ ∀ j : Nat, (j : Int) < n → TQ G (x + 100) z K N I R (hiA x (I (x + 11) 1) n j) (fun i => h (236 * j + i))) ∧
  ((∀ k : Nat, k < 2 → SlQ G (x + 100) z K N I R (R (x + 83) k) (v k) (fun i => s (236 * k + i))) ∧ (R (x + 83) 0 = none ∨ R (x + 83) 0 ≠ R (x + 83) 1)) ∧
  (POk (I (x + 91)) len ∧ I (x + 89) 2 = len ∧ I (x + 91) = P)
theorem hiA_in (x : Nat) (p n : Int) (j : Nat) : x + 13 ≤ hiA x p n j ∧ hiA x p n j + 10 ≤ x + 83 := by
  unfold hiA
  omega
theorem CK.lo {X z z' : Nat} {K N K' N' : Nat → Nat} {I I' : MI} {R R' : MR} (hz : z ≤ z') (hK : ∀ a : Nat, a < z → K' a = K a ∧ N' a = N a) (h : ∀ a : Nat, X ≤ a → a < z → I' a = I a ∧ R' a = R a) : CK X z K N I R z' K' N' I' R' :=
  ⟨hz, hK, fun c h1 h2 _ _ => ⟨(h c h1 (by omega)).1, (h c h1 (by omega)).2, (h (c + 1) (by omega) h2).1⟩⟩
/-- what a step of the tester at x + 1 leaves alone -/
def StK (x z : Nat) (K N : Nat → Nat) (I : MI) (R : MR) (z' : Nat) (K' N' : Nat → Nat) (I' : MI) (R' : MR) : Prop :=
  z ≤ z' ∧ (∀ a : Nat, a < z → K' a = K a ∧ N' a = N a) ∧ ∀ a : Nat, a < z → (a < x + 1 ∨ x + 11 ≤ a) → ((a < x + 84 ∨ x + 89 ≤ a) → I' a = I a) ∧ (a ≠ x + 86 → R' a = R a)
theorem CI.zx {G : GG} {x z : Nat} {K N : Nat → Nat} {I : MI} {R : MR} {f h s v P : Nat → Int} {n len : Int} (c : CI G x z K N I R f h s v P n len) : x + 91 < z := c.2.1.2.2.2.2.2.1.2.2.1
theorem CI.stp {G : GG} {x z z' : Nat} {K N K' N' : Nat → Nat} {I I' : MI} {R R' : MR} {f f' h s v P : Nat → Int} {n len : Int} (c : CI G x z K N I R f h s v P n len) (hs : StK x z K N I R z' K' N' I' R') (hT : TQ G (x + 100) z' K' N' I' R' (x + 1) f') : CI G x z' K' N' I' R' f' h s v P n len := by
  have hzx := c.zx
  obtain ⟨⟨a0, a1, a2, a3, a4, a5⟩, ⟨b0, ⟨b1, b2⟩, b3, b4⟩, c0, ⟨d0, d1, d2, d3⟩, ⟨e0, e1⟩, g0, g1, g2⟩ := c
  obtain ⟨s1, s2, s3⟩ := hs
  have ck : CK (x + 100) z K N I R z' K' N' I' R' := CK.lo s1 s2 fun a h1 h2 => ⟨(s3 a h2 (by omega)).1 (by omega), (s3 a h2 (by omega)).2 (by omega)⟩
  have ri : ∀ a : Nat, a < z → (a < x + 1 ∨ x + 11 ≤ a) → (a < x + 84 ∨ x + 89 ≤ a) → I' a = I a := fun a h1 h2 h3 => (s3 a h1 h2).1 h3
  have rr : ∀ a : Nat, a < z → (a < x + 1 ∨ x + 11 ≤ a) → a ≠ x + 86 → R' a = R a := fun a h1 h2 h3 => (s3 a h1 h2).2 h3
  have ex := rr x (by omega) (by omega) (by omega)
  have e11 := ri (x + 11) (by omega) (by omega) (by omega)
  have e83 := rr (x + 83) (by omega) (by omega) (by omega)
  have i91 := ri (x + 91) (by omega) (by omega) (by omega)
  have i89 := ri (x + 89) (by omega) (by omega) (by omega)
  refine ⟨⟨zK_mono a0 s1 (s2 x (by omega)).1, by rw [ex]; exact a1, by rw [ex]; exact a2, by rw [ex]; exact a3, by rw [ex]; exact a4, by rw [ex]; exact a5⟩, ⟨b0.mono s1 fun a h1 h2 => ⟨(s2 a (by omega)).1, (s2 a (by omega)).2, rr a (by omega) (by omega) (by omega)⟩, ⟨zK_mono b1 s1 (s2 _ (by omega)).1, by rw [(s2 _ (by omega)).2]; exact b2⟩, b3.mono s1 (fun a h1 h2 => s2 a (by omega)) (rr _ (by omega) (by omega) (by omega)), b4.mono s1 (fun a h1 h2 => s2 a (by omega)) (rr _ (by omega) (by omega) (by omega))⟩, hT, ⟨by rw [e11]; exact d0, by rw [e11]; exact d1, d2, fun j hj => ?_⟩, ⟨fun k hk => ?_, ?_⟩, ?_, ?_, ?_⟩
  · rw [e11]
    have hh := hiA_in x (I (x + 11) 1) n j
    exact (d3 j hj).keep ck fun a h1 h2 => ⟨ri a (by omega) (by omega) (by omega), rr a (by omega) (by omega) (by omega)⟩
  · rw [e83]
    rcases e0 k hk with w | ⟨sl, w1, w2, w3, w4⟩
    · exact Or.inl w
    · have wz := (w4.1.2.2.2.2 5 (by omega)).1.2.1
      exact Or.inr ⟨sl, w1, w2, w3, w4.keep ck fun a h1 h2 => ⟨ri a (by omega) (by omega) (by omega), rr a (by omega) (by omega) (by omega)⟩⟩
  · rw [e83]; exact e1
  · rw [i91]; exact g0
  · rw [i89]; exact g1
  · rw [i91]; exact g2
