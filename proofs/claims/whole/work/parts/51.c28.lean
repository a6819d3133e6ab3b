theorem CK.blk {G : GG} {X z : Nat} {K N : Nat → Nat} {I I' : MI} {R R' : MR} {t : Nat} (ht : ShT G z K N R t) (h : ∀ a : Nat, (a < t ∨ t + 10 ≤ a) → I' a = I a ∧ R' a = R a) : CK X z K N I R z K N I' R' := by
  obtain ⟨a, b, ⟨c1, c2, c3⟩, d, e⟩ := ht
  refine ⟨Nat.le_refl z, fun _ _ => ⟨rfl, rfl⟩, fun c h1 h2 h3 h4 => ?_⟩
  have n0 : ∀ q : Nat, t ≤ q → q < t + 10 → K q ≠ 0 := fun q q1 q2 => by
    rcases (show q = t ∨ q = t + 1 ∨ q = t + 2 ∨ q = t + 3 ∨ t + 4 ≤ q by omega) with w | w | w | w | w
    · rw [w, a.2.2]; omega
    · rw [w, c1.2.2]; omega
    · rw [w, c2.2.2]; omega
    · rw [w, c3.2.2]; omega
    · have := (e (q - (t + 4)) (by omega)).1.2.2
      rw [show t + 4 + (q - (t + 4)) = q by omega] at this
      rw [this]; omega
  have o1 : c < t ∨ t + 10 ≤ c := by
    rcases (show (c < t ∨ t + 10 ≤ c) ∨ (t ≤ c ∧ c < t + 10) by omega) with w | w
    · exact w
    · exact absurd h3 (n0 c w.1 w.2)
  have o2 : c + 1 < t ∨ t + 10 ≤ c + 1 := by
    rcases (show (c + 1 < t ∨ t + 10 ≤ c + 1) ∨ c + 1 = t by omega) with w | w
    · exact w
    · rw [w, a.2.2] at h4; omega
  exact ⟨(h c o1).1, (h c o1).2, (h _ o2).1⟩
theorem copI_n (I : MI) (t u a : Nat) (h : a < t ∨ t + 10 ≤ a) : copI I t u a = I a := by
  unfold copI
  rw [u2_row (by omega), u2_row (by omega), u2_row (by omega), cpI_n _ _ _ _ _ (by omega) (by omega) (by omega)]
theorem cpR_o (R : MR) (t u a : Nat) (h : a < t ∨ t + 10 ≤ a) : cpR R t u 6 a = R a := by
  funext j
  exact cpR_n _ _ _ _ _ _ (by omega)
theorem ShT.cpy {G : GG} {z : Nat} {K N : Nat → Nat} {R : MR} {t : Nat} (h : ShT G z K N R t) (u : Nat) : ShT G z K N (cpR R t u 6) t := by
  obtain ⟨a, ⟨b0, b1, b2⟩, c, d, e⟩ := h
  refine ⟨a, ⟨?_, ?_, ?_⟩, c, d, fun i hi => ⟨(e i hi).1, ?_⟩⟩
  · rw [cpR_n _ _ _ _ _ _ (by omega)]; exact b0
  · rw [cpR_n _ _ _ _ _ _ (by omega)]; exact b1
  · rw [cpR_n _ _ _ _ _ _ (by omega)]; exact b2
  · rw [cpR_n _ _ _ _ _ _ (by omega)]; exact (e i hi).2
theorem TN.copy {I : MI} {u : Nat} {f : Nat → Int} (h : TN I u f) (t : Nat) (h3 : f 3 ≤ 14) (h5 : f 5 ≤ 6) : TN (copI I t u) t f := by
  obtain ⟨⟨a, b, c⟩, ⟨d, e, k⟩, m, n⟩ := h
  have r1 : ∀ j : Nat, j < 3 → copI I t u (t + 1) j = I (u + 1) j := fun j hj => by
    unfold copI
    rw [u2_row (by omega), u2_row (by omega), u2_row (by omega)]
    unfold cpI
    rw [if_pos rfl]
    unfold zcpy
    rw [if_pos (by omega)]
    exact congrArg (I (u + 1)) (by omega)
  have r2 : ∀ j : Nat, j < 14 → copI I t u (t + 2) j = I (u + 2) j := fun j hj => by
    unfold copI
    rw [u2_row (by omega), u2_row (by omega), u2_row (by omega)]
    unfold cpI
    rw [if_neg (by omega), if_pos rfl]
    unfold zcpy
    rw [if_pos (by omega)]
    exact congrArg (I (u + 2)) (by omega)
  have r4 : ∀ g : Nat, g < 6 → copI I t u (t + 4 + g) = st1 (st1 (st1 (st1 (I (t + 4 + g)) 0 (I (u + 4 + g) 0)) 1 (I (u + 4 + g) 1)) 2 (I (u + 4 + g) 2)) 3 (I (u + 4 + g) 3) := fun g hg => by
    unfold copI
    rw [u2_row (by omega), u2_row (by omega), u2_row (by omega)]
    unfold cpI
    rw [if_neg (by omega), if_neg (by omega), if_pos (by omega), show u + 4 + (t + 4 + g - (t + 4)) = u + 4 + g by omega]
  refine ⟨⟨by rw [r1 0 (by omega)]; exact a, by rw [r1 1 (by omega)]; exact b, by rw [r1 2 (by omega)]; exact c⟩, ⟨?_, ?_, ?_⟩, fun r hr => by rw [r2 r (by omega)]; exact m r hr, fun g hg => ?_⟩
  · unfold copI; rw [u2_k (by omega), u2_k (by omega), u2_s]; exact d
  · unfold copI; rw [u2_k (by omega), u2_s]; exact e
  · unfold copI; rw [u2_s]; exact k
  · rw [r4 g (by omega)]
    obtain ⟨q0, q1, q2, q3⟩ := n g hg
    refine ⟨?_, ?_, ?_, ?_⟩
    · rw [st1_n (by omega), st1_n (by omega), st1_n (by omega), st1_s]; exact q0
    · rw [st1_n (by omega), st1_n (by omega), st1_s]; exact q1
    · rw [st1_n (by omega), st1_s]; exact q2
    · rw [st1_s]; exact q3
theorem TQ.copy {G : GG} {X z : Nat} {K N : Nat → Nat} {I : MI} {R : MR} {u t : Nat} {f : Nat → Int} (h : TQ G X z K N I R u f) (ht : ShT G z K N R t) : TQ G X z K N (copI I t u) (cpR R t u 6) t f := by
  obtain ⟨a, b, c, d⟩ := h
  have h3 := c.2.2.2.1
  have h5 := c.2.2.2.2.2.1
  refine ⟨ht.cpy u, b.copy t h3.2 h5.2, c, fun g hg => ?_⟩
  have e : cpR R t u 6 (t + 4 + g) 4 = R (u + 4 + g) 4 := by
    unfold cpR
    rw [if_pos (by omega), show u + 4 + (t + 4 + g - (t + 4)) = u + 4 + g by omega]
  rw [e]
  exact (d g hg).keep (CK.blk ht fun a ha => ⟨copI_n I t u a ha, cpR_o R t u a ha⟩)
/-- what is in the history's and the slots' testers may change, as long as what counts in them is told -/
theorem CI.his {G : GG} {x z : Nat} {K N : Nat → Nat} {I I' : MI} {R R' : MR} {f h s v P : Nat → Int} {n len : Int} (c : CI G x z K N I R f h s v P n len) {q : Nat} (hq : I (x + 11) 1 = (q : Int)) (hI : ∀ a : Nat, (a < x + 13 + 10 * q ∨ x + 13 + 10 * q + 10 ≤ a) → I' a = I a ∧ R' a = R a) (hS : ShT G z K N R' (x + 13 + 10 * q)) : CI G x z K N I' R' f h s v P n len := by
  obtain ⟨⟨a0, a1, a2, a3, a4, a5⟩, ⟨b0, ⟨b1, b2⟩, b3, b4⟩, c0, ⟨d0, d1, d2, d3⟩, ⟨e0, e1⟩, g0, g1, g2⟩ := c
  have hq6 : q ≤ 6 := by omega
  have ck : CK (x + 100) z K N I R z K N I' R' := CK.lo (Nat.le_refl z) (fun _ _ => ⟨rfl, rfl⟩) fun a h1 h2 => hI a (by omega)
  have ex := (hI x (by omega)).2
  have e83 := (hI (x + 83) (by omega)).2
  have e11 := (hI (x + 11) (by omega)).1
  refine ⟨⟨a0, by rw [ex]; exact a1, by rw [ex]; exact a2, by rw [ex]; exact a3, by rw [ex]; exact a4, by rw [ex]; exact a5⟩, ⟨?_, ⟨b1, b2⟩, b3.mono (Nat.le_refl z) (fun _ _ _ => ⟨rfl, rfl⟩) (hI _ (by omega)).2, b4.mono (Nat.le_refl z) (fun _ _ _ => ⟨rfl, rfl⟩) (hI _ (by omega)).2⟩, c0.keep ck (fun a h1 h2 => hI a (by omega)), ⟨by rw [e11]; exact d0, by rw [e11]; exact d1, d2, fun j hj => ?_⟩, ⟨fun k hk => ?_, ?_⟩, ?_, ?_, ?_⟩
  · obtain ⟨w0, w1, w2, w3, w4⟩ := b0
    refine ⟨w0, by rw [(hI (x + 11) (by omega)).2]; exact w1, w2, w3, fun i hi => ⟨?_, by rw [(hI (x + 11 + 1) (by omega)).2]; exact (w4 i hi).2⟩⟩
    by_cases hiq : i = q
    · subst hiq; exact hS
    · exact (w4 i hi).1.mono (Nat.le_refl z) fun a h1 h2 => ⟨rfl, rfl, (hI a (by omega)).2⟩
  · rw [e11]
    have hh : hiA x (I (x + 11) 1) n j + 10 ≤ x + 13 + 10 * q ∨ x + 13 + 10 * q + 10 ≤ hiA x (I (x + 11) 1) n j := by
      unfold hiA
      rw [hq]
      have : (((q : Int).toNat + 7 - n.toNat + j) % 7) ≠ q := by omega
      omega
    exact (d3 j hj).keep ck fun a h1 h2 => hI a (by omega)
  · rw [e83]
    rcases e0 k hk with w | ⟨sl, w1, w2, w3, w4⟩
    · exact Or.inl w
    · exact Or.inr ⟨sl, w1, w2, w3, w4.keep ck fun a h1 h2 => hI a (by omega)⟩
  · rw [e83]; exact e1
  · rw [(hI (x + 91) (by omega)).1]; exact g0
  · rw [(hI (x + 89) (by omega)).1]; exact g1
  · rw [(hI (x + 91) (by omega)).1]; exact g2
theorem CI.rem {G : GG} {x z : Nat} {K N : Nat → Nat} {I : MI} {R : MR} {f h s v P : Nat → Int} {n len : Int} (c : CI G x z K N I R f h s v P n len) {q : Nat} (hq : I (x + 11) 1 = (q : Int)) : CI G x z K N (copI I (x + 13 + 10 * q) (x + 1)) (cpR R (x + 13 + 10 * q) (x + 1) 6) f h s v P n len ∧ TQ G (x + 100) z K N (copI I (x + 13 + 10 * q) (x + 1)) (cpR R (x + 13 + 10 * q) (x + 1) 6) (x + 13 + 10 * q) f := by
  have hq6 : q ≤ 6 := by have := c.2.2.2.1.1; omega
  have hS : ShT G z K N R (x + 13 + 10 * q) := (c.2.1.1.2.2.2.2 q (by omega)).1
  exact ⟨c.his hq (fun a ha => ⟨copI_n _ _ _ _ ha, cpR_o _ _ _ _ ha⟩) (hS.cpy _), c.2.2.1.copy hS⟩
theorem recH_j (f h : Nat → Int) (n : Int) (hn : 0 ≤ n ∧ n ≤ 6) (j i : Nat) (hj : (j : Int) ≤ recN n) (hi : i < 236) : recH f h n (236 * j + i) = if (j : Int) = recN n then f i else h (236 * (if n = 6 then j + 1 else j) + i) := by
  unfold recH movF recS
  have hr : 0 ≤ recN n ∧ recN n ≤ 5 := by unfold recN; split <;> omega
  obtain ⟨k, hk⟩ := Int.eq_ofNat_of_zero_le hr.1
  rw [hk] at hj hr ⊢
  rw [show (236 * (k : Int)).toNat = 236 * k by omega]
  by_cases e : j = k
  · subst e
    rw [if_pos (by omega), if_pos rfl]
    exact congrArg f (by omega)
  · rw [if_neg (show ¬ ((j : Int) = (k : Int)) by omega), if_neg (by omega)]
    have hk2 : (k : Int) = if n = 6 then 5 else n := hk.symm
    by_cases e6 : n = 6
    · rw [if_pos e6] at hk2
      rw [if_pos ⟨e6, by omega⟩, if_pos e6]
      exact congrArg h (by omega)
    · rw [if_neg (fun w => e6 w.1), if_neg e6]
theorem CI.setl {G : GG} {x z : Nat} {K N : Nat → Nat} {I : MI} {R : MR} {f f0 h s v P : Nat → Int} {n len : Int} (c : CI G x z K N I R f h s v P n len) {q : Nat} (hq : I (x + 11) 1 = (q : Int)) (hu : TQ G (x + 100) z K N I R (x + 13 + 10 * q) f0) : CI G x z K N (u2 (u2 I (x + 11) 1 (if I (x + 11) 1 < 6 then I (x + 11) 1 + 1 else 0)) (x + 11) 2 (if I (x + 11) 2 < 6 then I (x + 11) 2 + 1 else 6)) R f (recH f0 h n) s v P (recN n + 1) len := by
  obtain ⟨a, b, c0, ⟨d0, d1, d2, d3⟩, ⟨e0, e1⟩, g0, g1, g2⟩ := c
  obtain ⟨J, hJ⟩ : ∃ J : MI, J = u2 (u2 I (x + 11) 1 (if I (x + 11) 1 < 6 then I (x + 11) 1 + 1 else 0)) (x + 11) 2 (if I (x + 11) 2 < 6 then I (x + 11) 2 + 1 else 6) := ⟨_, rfl⟩
  rw [← hJ]
  have jn : ∀ w : Nat, w ≠ x + 11 → J w = I w := fun w hw => by rw [hJ, u2_row hw, u2_row hw]
  have j1 : J (x + 11) 1 = if I (x + 11) 1 < 6 then I (x + 11) 1 + 1 else 0 := by rw [hJ, u2_k (by omega), u2_s]
  have j2 : J (x + 11) 2 = if I (x + 11) 2 < 6 then I (x + 11) 2 + 1 else 6 := by rw [hJ, u2_s]
  have ck : CK (x + 100) z K N I R z K N J R := CK.lo (Nat.le_refl z) (fun _ _ => ⟨rfl, rfl⟩) fun w h1 h2 => ⟨jn w (by omega), rfl⟩
  have hr : recN n + 1 = if n < 6 then n + 1 else 6 := by unfold recN; split <;> split <;> omega
  refine ⟨a, b, c0.keep ck (fun w h1 h2 => ⟨jn w (by omega), rfl⟩), ⟨by rw [j1]; split <;> omega, by rw [j2, hr, d1], by rw [hr]; split <;> omega, fun j hj => ?_⟩, ⟨fun k hk => ?_, e1⟩, ?_, ?_, ?_⟩
  · have hjr : (j : Int) ≤ recN n := by omega
    have ea : hiA x (J (x + 11) 1) (recN n + 1) j = if (j : Int) = recN n then x + 13 + 10 * q else hiA x (I (x + 11) 1) n (if n = 6 then j + 1 else j) := by
      unfold hiA
      rw [j1, hr, hq]
      have hrn : recN n = if n = 6 then 5 else n := rfl
      rw [hrn] at hjr ⊢
      by_cases h6 : n = 6
      · rw [if_pos h6] at hjr ⊢
        rw [if_neg (show ¬ n < 6 by omega)]
        by_cases hj5 : (j : Int) = 5
        · rw [if_pos hj5]
          split <;> omega
        · rw [if_neg hj5, if_pos h6]
          split <;> omega
      · rw [if_neg h6] at hjr ⊢
        rw [if_pos (show n < 6 by omega)]
        by_cases hj5 : (j : Int) = n
        · rw [if_pos hj5]
          split <;> omega
        · rw [if_neg hj5, if_neg h6]
          split <;> omega
    rw [ea]
    by_cases e : (j : Int) = recN n
    · rw [if_pos e]
      refine TQ.cong (hu.keep ck (fun w h1 h2 => ⟨jn w (by omega), rfl⟩)) fun i hi => ?_
      rw [recH_j f0 h n d2 j i hjr hi, if_pos e]
    · rw [if_neg e]
      have hjn : (((if n = 6 then j + 1 else j : Nat)) : Int) < n := by
        have hrn : recN n = if n = 6 then 5 else n := rfl
        rw [hrn] at hjr e
        split <;> rename_i h6
        · rw [if_pos h6] at hjr e; omega
        · rw [if_neg h6] at hjr e; omega
      have hh := hiA_in x (I (x + 11) 1) n (if n = 6 then j + 1 else j)
      refine TQ.cong ((d3 _ hjn).keep ck (fun w h1 h2 => ⟨jn w (by omega), rfl⟩)) fun i hi => ?_
      rw [recH_j f0 h n d2 j i hjr hi, if_neg e]
  · rcases e0 k hk with w | ⟨sl, w1, w2, w3, w4⟩
    · exact Or.inl w
    · exact Or.inr ⟨sl, w1, w2, w3, w4.keep ck fun y h1 h2 => ⟨jn y (by omega), rfl⟩⟩
  · rw [jn (x + 91) (by omega)]; exact g0
  · rw [jn (x + 89) (by omega)]; exact g1
  · rw [jn (x + 91) (by omega)]; exact g2
