/-! undo, saved states -/
theorem CI.decr {G : GG} {x z : Nat} {K N : Nat → Nat} {I : MI} {R : MR} {f h s v P : Nat → Int} {n len : Int} (c : CI G x z K N I R f h s v P n len) (hn : 1 ≤ n) :
    CI G x z K N (u2 (u2 I (x + 11) 1 (if 0 < I (x + 11) 1 then I (x + 11) 1 - 1 else 6)) (x + 11) 2 (I (x + 11) 2 - 1)) R f h s v P (n - 1) len ∧ TQ G (x + 100) z K N (u2 (u2 I (x + 11) 1 (if 0 < I (x + 11) 1 then I (x + 11) 1 - 1 else 6)) (x + 11) 2 (I (x + 11) 2 - 1)) R (x + 11 + 2 + 10 * (if 0 < I (x + 11) 1 then I (x + 11) 1 - 1 else 6).toNat) (fun i => h (236 * (n - 1).toNat + i)) := by
  obtain ⟨a, b, c0, ⟨d0, d1, d2, d3⟩, ⟨e0, e1⟩, g0, g1, g2⟩ := c
  obtain ⟨J, hJ⟩ : ∃ J : MI, J = u2 (u2 I (x + 11) 1 (if 0 < I (x + 11) 1 then I (x + 11) 1 - 1 else 6)) (x + 11) 2 (I (x + 11) 2 - 1) := ⟨_, rfl⟩
  rw [← hJ]
  have jn : ∀ w : Nat, w ≠ x + 11 → J w = I w := fun w hw => by rw [hJ, u2_row hw, u2_row hw]
  have j1 : J (x + 11) 1 = (if 0 < I (x + 11) 1 then I (x + 11) 1 - 1 else 6) := by rw [hJ, u2_k (by omega), u2_s]
  have j2 : J (x + 11) 2 = n - 1 := by rw [hJ, u2_s, d1]
  have ck : CK (x + 100) z K N I R z K N J R := CK.lo (Nat.le_refl z) (fun _ _ => ⟨rfl, rfl⟩) fun w h1 h2 => ⟨jn w (by omega), rfl⟩
  have ea : ∀ j : Nat, (j : Int) < n - 1 → hiA x (J (x + 11) 1) (n - 1) j = hiA x (I (x + 11) 1) n j := fun j hj => by
    unfold hiA
    rw [j1]
    split <;> omega
  refine ⟨⟨a, b, c0.keep ck (fun w h1 h2 => ⟨jn w (by omega), rfl⟩), ⟨by rw [j1]; split <;> omega, j2, by omega, fun j hj => ?_⟩, ⟨fun k hk => ?_, e1⟩, ?_, ?_, ?_⟩, ?_⟩
  · rw [ea j hj]
    have hh := hiA_in x (I (x + 11) 1) n j
    exact (d3 j (by omega)).keep ck (fun w h1 h2 => ⟨jn w (by omega), rfl⟩)
  · rcases e0 k hk with w | ⟨sl, w1, w2, w3, w4⟩
    · exact Or.inl w
    · exact Or.inr ⟨sl, w1, w2, w3, w4.keep ck fun y h1 h2 => ⟨jn y (by omega), rfl⟩⟩
  · rw [jn (x + 91) (by omega)]; exact g0
  · rw [jn (x + 89) (by omega)]; exact g1
  · rw [jn (x + 91) (by omega)]; exact g2
  · have w := d3 (n - 1).toNat (by omega)
    have e : hiA x (I (x + 11) 1) n (n - 1).toNat = x + 11 + 2 + 10 * (if 0 < I (x + 11) 1 then I (x + 11) 1 - 1 else 6).toNat := by
      unfold hiA
      split <;> omega
    rw [e] at w
    refine w.keep ck (fun y h1 h2 => ⟨jn y ?_, rfl⟩)
    omega
theorem CI.cpn {G : GG} {x z : Nat} {K N : Nat → Nat} {I : MI} {R : MR} {f h s v P : Nat → Int} {n len : Int} (c : CI G x z K N I R f h s v P n len) {u : Nat} {f2 f3 : Nat → Int} (hu : TQ G (x + 100) z K N I R u f2) (e : ∀ j : Nat, j < 236 → f3 j = f2 j) : OpT G x z K N I R f3 (copI I (x + 1) u) (cpR R (x + 1) u 6) :=
  ⟨(hu.copy c.2.2.1.1).cong e, fun a ha => ⟨copI_n _ _ _ _ (by omega), cpR_o _ _ _ _ (by omega)⟩⟩
theorem CI.opt {G : GG} {x z : Nat} {K N : Nat → Nat} {I : MI} {R : MR} {f h s v P : Nat → Int} {n len : Int} (c : CI G x z K N I R f h s v P n len) {f' : Nat → Int} {I' : MI} {R' : MR} (hx : x + 100 ≤ z) (ho : OpT G x z K N I R f' I' R') : CPn G x z K N I R f' h s v P n len z K N I' R' :=
  ⟨FrM.rfl.stk hx (StK.op ho.2), c.stp (StK.op ho.2) ho.1⟩
theorem CI.und {G : GG} {x z : Nat} {K N : Nat → Nat} {I : MI} {R : MR} {f h s v P : Nat → Int} {n len : Int} (c : CI G x z K N I R f h s v P n len) (hx : x + 100 ≤ z) : CPn G x z K N I R (if n = 0 then f else movF h f ((n - 1) * 236).toNat 0) h s v P (if n = 0 then n else n - 1) len z K N (if I (x + 11) 2 < 1 then I else copI (u2 (u2 I (x + 11) 1 (if 0 < I (x + 11) 1 then I (x + 11) 1 - 1 else 6)) (x + 11) 2 (I (x + 11) 2 - 1)) (x + 1) (x + 11 + 2 + 10 * (if 0 < I (x + 11) 1 then I (x + 11) 1 - 1 else 6).toNat)) (if I (x + 11) 2 < 1 then R else cpR R (x + 1) (x + 11 + 2 + 10 * (if 0 < I (x + 11) 1 then I (x + 11) 1 - 1 else 6).toNat) 6) := by
  have hn := c.2.2.2.1.2.2.1
  have h2 := c.2.2.2.1.2.1
  by_cases h0 : n = 0
  · have hi : I (x + 11) 2 < 1 := by omega
    rw [if_pos h0, if_pos h0, if_pos hi, if_pos hi]
    exact ⟨FrM.rfl, c⟩
  · have hi : ¬ I (x + 11) 2 < 1 := by omega
    rw [if_neg h0, if_neg h0, if_neg hi, if_neg hi]
    obtain ⟨d, t⟩ := c.decr (by omega)
    have o := d.cpn t (f3 := movF h f ((n - 1) * 236).toNat 0) fun j hj => by
      unfold movF
      rw [if_pos (by omega)]
      exact congrArg h (by omega)
    obtain ⟨p1, p2⟩ := d.opt hx o
    refine ⟨⟨p1.1, p1.2.1, fun a h1 h2 => ⟨(p1.2.2 a h1 h2).1.trans ?_, (p1.2.2 a h1 h2).2⟩⟩, p2⟩
    rw [u2_row (by omega), u2_row (by omega)]
theorem ShT.kd {G : GG} {z : Nat} {K N : Nat → Nat} {R : MR} {t : Nat} (h : ShT G z K N R t) : ∀ q : Nat, t < q → q < t + 10 → K q ≠ 4 := fun q q1 q2 => by
  obtain ⟨a, b, ⟨c1, c2, c3⟩, d, e⟩ := h
  rcases (show q = t + 1 ∨ q = t + 2 ∨ q = t + 3 ∨ t + 4 ≤ q by omega) with w | w | w | w
  · rw [w, c1.2.2]; omega
  · rw [w, c2.2.2]; omega
  · rw [w, c3.2.2]; omega
  · have := (e (q - (t + 4)) (by omega)).1.2.2
    rw [show t + 4 + (q - (t + 4)) = q by omega] at this
    rw [this]; omega
theorem ShT.dj {G : GG} {z : Nat} {K N : Nat → Nat} {R R2 : MR} {a b : Nat} (h : ShT G z K N R a) (h2 : ShT G z K N R2 b) (hne : a ≠ b) : a + 10 ≤ b ∨ b + 10 ≤ a := by
  rcases (show (a + 10 ≤ b ∨ b + 10 ≤ a) ∨ (a < b ∧ b < a + 10) ∨ (b < a ∧ a < b + 10) by omega) with w | w | w
  · exact w
  · exact absurd h2.1.2.2 (h.kd b w.1 w.2)
  · exact absurd h.1.2.2 (h2.kd a w.1 w.2)
theorem CK.blk2 {G : GG} {X z : Nat} {K N : Nat → Nat} {I I' : MI} {R R' R2 : MR} {t : Nat} (ht : ShT G z K N R2 t) (h : ∀ a : Nat, X ≤ a → (a < t ∨ t + 10 ≤ a) → I' a = I a ∧ R' a = R a) : CK X z K N I R z K N I' R' := by
  obtain ⟨w1, w2, w3⟩ := CK.blk (X := X) (I := fun a j => if X ≤ a ∧ (a < t ∨ t + 10 ≤ a) then I' a j else 0) (I' := fun a j => if X ≤ a ∧ (a < t ∨ t + 10 ≤ a) then I' a j else if a < t ∨ t + 10 ≤ a then 0 else 1) (R' := R2) ht fun a ha => ⟨by
    funext j
    by_cases q : X ≤ a ∧ (a < t ∨ t + 10 ≤ a)
    · rw [if_pos q, if_pos q]
    · rw [if_neg q, if_neg q, if_pos ha], rfl⟩
  refine ⟨w1, w2, fun c h1 h2 h3 h4 => ?_⟩
  obtain ⟨y1, -, y3⟩ := w3 c h1 h2 h3 h4
  have o1 : c < t ∨ t + 10 ≤ c := by
    rcases (show (c < t ∨ t + 10 ≤ c) ∨ ¬ (c < t ∨ t + 10 ≤ c) by omega) with w | w
    · exact w
    · have y := congrFun y1 0
      have ha : ¬ (X ≤ c ∧ (c < t ∨ t + 10 ≤ c)) := fun q => w q.2
      simp only [if_neg ha, if_neg w] at y
      omega
  have o2 : c + 1 < t ∨ t + 10 ≤ c + 1 := by
    rcases (show (c + 1 < t ∨ t + 10 ≤ c + 1) ∨ ¬ (c + 1 < t ∨ t + 10 ≤ c + 1) by omega) with w | w
    · exact w
    · have y := congrFun y3 0
      have ha : ¬ (X ≤ c + 1 ∧ (c + 1 < t ∨ t + 10 ≤ c + 1)) := fun q => w q.2
      simp only [if_neg ha, if_neg w] at y
      omega
  exact ⟨(h c h1 o1).1, (h c h1 o1).2, (h (c + 1) (by omega) o2).1⟩
theorem CI.drop {G : GG} {x z : Nat} {K N : Nat → Nat} {I : MI} {R : MR} {f h s v P : Nat → Int} {n len : Int} (c : CI G x z K N I R f h s v P n len) {k : Nat} (hk : k < 2) : CI G x z K N I (u2 R (x + 83) k none) f h s (st1 v k 0) P n len := by
  obtain ⟨⟨a0, a1, a2, a3, a4, a5⟩, ⟨b0, ⟨b1, b2⟩, b3, b4⟩, c0, ⟨d0, d1, d2, d3⟩, ⟨e0, e1⟩, g⟩ := c
  obtain ⟨Q, hQ⟩ : ∃ Q : MR, Q = u2 R (x + 83) k none := ⟨_, rfl⟩
  rw [← hQ]
  have qn : ∀ w : Nat, w ≠ x + 83 → Q w = R w := fun w hw => by rw [hQ, u2_row hw]
  have qk : Q (x + 83) k = none := by rw [hQ, u2_s]
  have qo : ∀ j : Nat, j ≠ k → Q (x + 83) j = R (x + 83) j := fun j hj => by rw [hQ, u2_k hj]
  have ck : CK (x + 100) z K N I R z K N I Q := CK.lo (Nat.le_refl z) (fun _ _ => ⟨rfl, rfl⟩) fun w h1 h2 => ⟨rfl, qn w (by omega)⟩
  have ex := qn x (by omega)
  refine ⟨⟨a0, by rw [ex]; exact a1, by rw [ex]; exact a2, by rw [ex]; exact a3, by rw [ex]; exact a4, by rw [ex]; exact a5⟩, ⟨b0.mono (Nat.le_refl z) (fun w h1 h2 => ⟨rfl, rfl, qn w (by omega)⟩), ⟨b1, b2⟩, b3.mono (Nat.le_refl z) (fun _ _ _ => ⟨rfl, rfl⟩) (qn _ (by omega)), b4.mono (Nat.le_refl z) (fun _ _ _ => ⟨rfl, rfl⟩) (qn _ (by omega))⟩, c0.keep ck (fun w h1 h2 => ⟨rfl, qn w (by omega)⟩), ⟨d0, d1, d2, fun j hj => ?_⟩, ⟨fun q hq => ?_, ?_⟩, g⟩
  · have hh := hiA_in x (I (x + 11) 1) n j
    exact (d3 j hj).keep ck (fun w h1 h2 => ⟨rfl, qn w (by omega)⟩)
  · by_cases e : q = k
    · subst e
      exact Or.inl ⟨qk, st1_s _ _ _⟩
    · rw [qo q e, st1_n e]
      rcases e0 q hq with w | ⟨sl, w1, w2, w3, w4⟩
      · exact Or.inl w
      · exact Or.inr ⟨sl, w1, w2, w3, w4.keep ck fun y h1 h2 => ⟨rfl, qn y (by omega)⟩⟩
  · rcases (show k = 0 ∨ k = 1 by omega) with e | e
    · subst e; exact Or.inl qk
    · subst e
      rw [qk, qo 0 (by omega)]
      cases R (x + 83) 0 with
      | none => exact Or.inl rfl
      | some w => exact Or.inr (fun y => by cases y)
theorem CI.svk {G : GG} {x z : Nat} {K N : Nat → Nat} {I : MI} {R : MR} {f h s v P : Nat → Int} {n len : Int} {k tt : Nat} (hk : k < 2) (c : CI G x z K N I (u2 R (x + 83) k none) f h s (st1 v k 0) P n len) (h1 : R (x + 83) k = some tt) (hS : ShT G z K N R tt) (hX : x + 100 ≤ tt) (hne : R (x + 83) (1 - k) ≠ some tt) :
    CI G x z K N (copI I tt (x + 1)) (cpR R tt (x + 1) 6) f h (movF f s 0 (236 * k)) (st1 v k 1) P n len := by
  obtain ⟨⟨a0, a1, a2, a3, a4, a5⟩, ⟨b0, ⟨b1, b2⟩, b3, b4⟩, c0, ⟨d0, d1, d2, d3⟩, ⟨e0, e1⟩, g⟩ := c
  have qn : ∀ w : Nat, w ≠ x + 83 → u2 R (x + 83) k none w = R w := fun w hw => u2_row hw
  have in_ : ∀ w : Nat, (w < tt ∨ tt + 10 ≤ w) → copI I tt (x + 1) w = I w := fun w hw => copI_n _ _ _ _ hw
  have rn : ∀ w : Nat, (w < tt ∨ tt + 10 ≤ w) → cpR R tt (x + 1) 6 w = R w := fun w hw => cpR_o _ _ _ _ hw
  have rq : ∀ w : Nat, w ≠ x + 83 → (w < tt ∨ tt + 10 ≤ w) → cpR R tt (x + 1) 6 w = u2 R (x + 83) k none w := fun w h2 h3 => (rn w h3).trans (qn w h2).symm
  have ck : CK (x + 100) z K N I (u2 R (x + 83) k none) z K N (copI I tt (x + 1)) (cpR R tt (x + 1) 6) := CK.blk2 hS fun w h2 h3 => ⟨in_ w h3, rq w (by omega) h3⟩
  have ck0 : CK (x + 100) z K N I (u2 R (x + 83) k none) z K N I R := CK.lo (Nat.le_refl z) (fun _ _ => ⟨rfl, rfl⟩) fun w h2 h3 => ⟨rfl, (qn w (by omega)).symm⟩
  have c1 : TQ G (x + 100) z K N I R (x + 1) f := c0.keep ck0 fun w h2 h3 => ⟨rfl, (qn w (by omega)).symm⟩
  have ex := rq x (by omega) (by omega)
  refine ⟨⟨a0, by rw [ex]; exact a1, by rw [ex]; exact a2, by rw [ex]; exact a3, by rw [ex]; exact a4, by rw [ex]; exact a5⟩, ⟨b0.mono (Nat.le_refl z) (fun w h2 h3 => ⟨rfl, rfl, rq w (by omega) (by omega)⟩), ⟨b1, b2⟩, b3.mono (Nat.le_refl z) (fun _ _ _ => ⟨rfl, rfl⟩) (rq _ (by omega) (by omega)), b4.mono (Nat.le_refl z) (fun _ _ _ => ⟨rfl, rfl⟩) (rq _ (by omega) (by omega))⟩, c0.keep ck (fun w h2 h3 => ⟨in_ w (by omega), rq w (by omega) (by omega)⟩), ⟨?_, ?_, d2, fun j hj => ?_⟩, ⟨fun q hq => ?_, ?_⟩, ?_⟩
  · rw [in_ (x + 11) (by omega)]; exact d0
  · rw [in_ (x + 11) (by omega)]; exact d1
  · rw [in_ (x + 11) (by omega)]
    have hh := hiA_in x (I (x + 11) 1) n j
    exact (d3 j hj).keep ck (fun w h2 h3 => ⟨in_ w (by omega), rq w (by omega) (by omega)⟩)
  · rw [rn (x + 83) (by omega)]
    by_cases e : q = k
    · subst e
      refine Or.inr ⟨tt, h1, st1_s _ _ _, hX, (c1.copy hS).cong fun j hj => ?_⟩
      unfold movF
      rw [if_pos (by omega)]
      exact congrArg f (by omega)
    · have w0 := e0 q hq
      rw [u2_k e, st1_n e] at w0
      rw [st1_n e]
      rcases w0 with w | ⟨sl, w1, w2, w3, w4⟩
      · exact Or.inl w
      · have hs : sl ≠ tt := fun y => by
          subst y
          rw [show 1 - k = q by omega] at hne
          exact hne w1
        have dj := w4.1.dj hS hs
        refine Or.inr ⟨sl, w1, w2, w3, (w4.keep ck fun y h2 h3 => ⟨in_ y (by omega), rq y (by omega) (by omega)⟩).cong fun j hj => ?_⟩
        unfold movF
        rw [if_neg (by omega)]
  · rw [rn (x + 83) (by omega)]
    rcases (show k = 0 ∨ k = 1 by omega) with e | e
    · subst e
      exact Or.inr (fun y => hne (y.symm.trans h1))
    · subst e
      exact Or.inr (fun y => hne (y.trans h1))
  · rw [in_ (x + 91) (by omega), in_ (x + 89) (by omega)]
    exact g
theorem u2u2 {α : Type} (f : Nat → Nat → α) (a k : Nat) (v w : α) : u2 (u2 f a k v) a k w = u2 f a k w := by
  funext b j
  by_cases e : b = a ∧ j = k
  · rw [e.1, e.2, u2_s, u2_s]
  · exact (if_neg e).trans ((if_neg e).trans (if_neg e).symm)
theorem CI.grow {G : GG} {x z : Nat} {K N : Nat → Nat} {I : MI} {R : MR} {f h s v P : Nat → Int} {n len : Int} (c : CI G x z K N I R f h s v P n len) {z' : Nat} {K' N' : Nat → Nat} {I' : MI} {R' : MR} (hz : z ≤ z') (hw : ∀ a : Nat, a < z → (K' a = K a ∧ N' a = N a) ∧ I' a = I a ∧ R' a = R a) : CI G x z' K' N' I' R' f h s v P n len := by
  have tz := (c.2.2.1.1.2.2.2.2 5 (by omega)).1.2.1
  refine c.stp ⟨hz, fun a ha => (hw a ha).1, fun a ha _ => ⟨fun _ => (hw a ha).2.1, fun _ => (hw a ha).2.2⟩⟩ (c.2.2.1.keep (CK.lo hz (fun a ha => (hw a ha).1) fun a _ ha => (hw a ha).2) fun a h1 h2 => (hw a (by omega)).2)
set_option maxHeartbeats 4000000 in
set_option maxRecDepth 100000 in
theorem mX6_undo (l : Launch) (G : GG) {z : Nat} {K N : Nat → Nat} {I : MI} {R : MR} {x : Nat} {f h s0 v0 P : Nat → Int} {n len : Int} (hC : CI G x z K N I R f h s0 v0 P n len) (hx : x + 100 ≤ z) : Con l G yX6_undo (Cond.code yX6_undo cX6_undo 1 (some .int) :: wsL_law) ⟨3, 0, 0, 69⟩ 0 0 [.ref x] z K N I R (fun r z' K' N' I' R' => r = some (.int (zI (if n = 0 then -5 else n - 1))) ∧ CPn G x z K N I R (if n = 0 then f else movF h f ((n - 1) * 236).toNat 0) h s0 v0 P (if n = 0 then n else n - 1) len z' K' N' I' R') := by
  refine Con.of (own := RX6) (cc := cX6_undo) (maxL := 1) (ret := (some .int)) (by decide +kernel) rfl rfl (Nat.le_of_ble_eq_true rfl) (by decide) rfl ?_
  intro p e9 s mt args below meth c Q hin hQ C
  obtain ⟨⟨cx, cr0, cr1, cr2, cr3, cr4⟩, ⟨cH, ⟨cS, cN⟩, cX, cP⟩, cT, ⟨cp, cn, cm, cJ⟩, cSl, cPd⟩ := id hC
  have kn := cT.1.1
  have kh := cH.1
  refine z_aload_n C dX6_undo_0 rfl ?_
  refine z_gR C (ci := 6) (k := 1) rfl (by decide) rfl (by decide) wl_6 wq_1_20 (by decide) dX6_undo_1 (by assumption) (by assumption) ?_
  refine z_aload_n C dX6_undo_4 rfl ?_
  refine z_gR C (ci := 6) (k := 0) rfl (by decide) rfl (by decide) wl_6 wq_1_16 (by decide) dX6_undo_5 (by assumption) (by assumption) ?_
  refine z_callVd C (ci := 2) rfl (by decide) (by assumption) (mX2_stepBack l G cH cT.1 (by omega) cp (by rw [cn]; exact cm)) (cwV 1 C.2.2.2.2.1 gv6_196 rfl rfl rfl hd_X2_stepBack ⟨Nat.le_of_ble_eq_true rfl, Nat.le_of_ble_eq_true rfl⟩) rfl rfl (Nat.le_of_ble_eq_true rfl) dX6_undo_8 ⟨Nat.zero_le _, Nat.zero_le _⟩ ?_
  exact z_iret2 C hQ rfl dX6_undo_11 ⟨zr (by rw [cn]; split <;> split <;> omega), hC.und hx⟩

set_option maxHeartbeats 4000000 in
set_option maxRecDepth 100000 in
theorem mX6_save (l : Launch) (G : GG) {z : Nat} {K N : Nat → Nat} {I : MI} {R : MR} {x : Nat} {f h s0 v0 P : Nat → Int} {n len : Int} (hC : CI G x z K N I R f h s0 v0 P n len) (hx : x + 100 ≤ z) {sl : Int} (hsl : -2147483648 ≤ sl ∧ sl < 2147483648) : Con l G yX6_save (Cond.code yX6_save cX6_save 2 (some .int) :: wsL_law) ⟨3, 10, 59, 61⟩ 10 59 [.ref x, .int (zI sl)] z K N I R (fun r z' K' N' I' R' => r = some (.int (zI (if 0 ≤ sl ∧ sl ≤ 1 then f 3 else -2))) ∧ CPn G x z K N I R f h (if 0 ≤ sl ∧ sl ≤ 1 then movF f s0 0 (236 * sl.toNat) else s0) (if 0 ≤ sl ∧ sl ≤ 1 then st1 v0 sl.toNat 1 else v0) P n len z' K' N' I' R') := by
  refine Con.of (own := RX6) (cc := cX6_save) (maxL := 2) (ret := (some .int)) (by decide +kernel) rfl rfl (Nat.le_of_ble_eq_true rfl) (by decide) rfl ?_
  intro p e9 s mt args below meth c Q hin hQ C
  obtain ⟨⟨cx, cr0, cr1, cr2, cr3, cr4⟩, ⟨cH, ⟨cS, cN⟩, cX, cP⟩, cT, ⟨cp, cn, cm, cJ⟩, cSl, cPd⟩ := id hC
  have kn := cT.1.1
  have kh := cH.1
  have h34 : ∀ (k9 : Nat) (z2 : Nat) (K2 N2 : Nat → Nat) (I2 : MI) (R2 : MR) (tt : Nat), k9 < 2 → sl = (k9 : Int) → CI G x z2 K2 N2 I2 (u2 R2 (x + 83) k9 none) f h s0 (st1 v0 k9 0) P n len → R2 (x + 83) k9 = some tt → ShT G z2 K2 N2 R2 tt → x + 100 ≤ tt → R2 (x + 83) (1 - k9) ≠ some tt → FrM x z K N I R z2 K2 N2 I2 R2 → Zq p l e9 ⟨3, 10, 59, 61⟩ s mt args below meth c G 2 Q 10 59 z2 K2 N2 I2 R2 34 [(0, .ref x), (1, .int (zI (k9 : Int)))] [] := by
    intro k9 z2 K2 N2 I2 R2 tt hk9 hsl9 dC h1 hS hX hne dM
    subst hsl9
    simp only [Int.toNat_natCast] at hQ
    have hcc : 0 ≤ (k9 : Int) ∧ (k9 : Int) ≤ 1 := by omega
    obtain ⟨⟨ex, er0, er1, er2, er3, er4⟩, ⟨eH, ⟨eS, eN⟩, eX, eP⟩, eT, -⟩ := id dC
    have qn : ∀ w : Nat, w ≠ x + 83 → u2 R2 (x + 83) k9 none w = R2 w := fun w hw => u2_row hw
    rw [qn x (by omega)] at er0 er1 er2 er3 er4
    have hT : ShT G z2 K2 N2 R2 (x + 1) := eT.1.mono (Nat.le_refl z2) fun w h2 h3 => ⟨rfl, rfl, (qn w (by omega)).symm⟩
    have kn2 := hT.1
    have ktt := hS.1
    have e3 := eT.2.1.2.1.1
    have hfin := dC.svk hk9 h1 hS hX hne
    have hz2 := dC.zx
    refine z_aload_n C dX6_save_34 rfl ?_
    refine z_gR C (ci := 6) (k := 2) rfl (by decide) rfl (by decide) wl_6 wq_1_21 (by decide) dX6_save_35 (by assumption) (by assumption) ?_
    refine z_iload_n C dX6_save_38 rfl ?_
    refine z_aaldk C (k9) 11 (by decide) dX6_save_39 (by assumption) (by first | rfl | omega) (by omega) (by omega) ?_
    refine z_top (y := .ref tt) (by rw [h1]; rfl) ?_
    refine z_aload_n C dX6_save_40 rfl ?_
    refine z_gR C (ci := 6) (k := 0) rfl (by decide) rfl (by decide) wl_6 wq_1_16 (by decide) dX6_save_41 (by assumption) (by assumption) ?_
    refine z_callVd C (ci := 4) rfl (by decide) (by assumption) (mX4_copyFrom l G hS hT (by omega)) (cwV 1 C.2.2.2.2.1 gv6_200 rfl rfl rfl hd_X4_copyFrom ⟨Nat.le_of_ble_eq_true rfl, Nat.le_of_ble_eq_true rfl⟩) rfl rfl (Nat.le_of_ble_eq_true rfl) dX6_save_44 ⟨(Nat.le_of_ble_eq_true rfl), (Nat.le_of_ble_eq_true rfl)⟩ ?_
    have er0b : cpR R2 tt (x + 1) 6 x 0 = some (x + 1) := by rw [cpR_o _ _ _ _ (by omega)]; exact er0
    refine z_aload_n C dX6_save_47 rfl ?_
    refine z_gR C (ci := 6) (k := 0) rfl (by decide) rfl (by decide) wl_6 wq_1_16 (by decide) dX6_save_48 (by assumption) (by assumption) ?_
    refine z_gI C (ci := 4) (k := 3) rfl (by decide) rfl (by decide) wl_4 wq_21_12 rfl dX6_save_51 (by assumption) ?_
    rw [copI_n _ _ _ _ (show x + 1 < tt ∨ tt + 10 ≤ x + 1 by omega), e3]
    exact z_iret2 C hQ rfl dX6_save_54 ⟨zr (by rw [if_pos hcc]), ⟨dM.1, dM.2.1, fun w h2 h3 => ⟨by rw [copI_n _ _ _ _ (by omega)]; exact (dM.2.2 w h2 h3).1, by rw [cpR_o _ _ _ _ (by omega)]; exact (dM.2.2 w h2 h3).2⟩⟩, by rw [if_pos hcc, if_pos hcc]; exact hfin⟩
  refine z_iload_n C dX6_save_0 rfl ?_
  refine z_if_lt C (tgt := 9) dX6_save_1 (by decide) (by first | omega | exact b2i_r) (fun h1 => ?_) (fun h1 => ?_)
  · have hno : ¬ (0 ≤ sl ∧ sl ≤ 1) := by omega
    refine z_bipush C dX6_save_9 (by decide) ?_
    refine z_widen (k := 10) (n := 59) (Nat.le_of_ble_eq_true rfl) (Nat.le_of_ble_eq_true rfl) ?_
    exact z_iret2 C hQ rfl dX6_save_11 ⟨zr (if_neg hno).symm, FrM.rfl, by rw [if_neg hno, if_neg hno]; exact hC⟩
  · refine z_iload_n C dX6_save_4 rfl ?_
    refine z_iconst C dX6_save_5 ?_
    refine z_icmp_lt C (tgt := 12) dX6_save_6 (by decide) (by first | omega | exact b2i_r) (by first | omega | exact b2i_r) (fun h6 => ?_) (fun h6 => ?_)
    · obtain ⟨k9, hk8⟩ := Int.eq_ofNat_of_zero_le (show 0 ≤ sl by omega)
      subst hk8
      have hk9 : k9 < 2 := by omega
      have hsl9 := cSl.1 k9 hk9
      refine z_aload_n C dX6_save_12 rfl ?_
      refine z_gR C (ci := 6) (k := 2) rfl (by decide) rfl (by decide) wl_6 wq_1_21 (by decide) dX6_save_13 (by assumption) (by assumption) ?_
      refine z_iload_n C dX6_save_16 rfl ?_
      refine z_aaldk C (k9) 11 (by decide) dX6_save_17 (by assumption) (by first | rfl | omega) (by omega) (by omega) ?_
      refine z_ifnonnull C (tgt := 34) dX6_save_18 (by decide) (fun x18 h18 => ?_) (fun h18 => ?_)
      · first
        | (have hv0 : v0 k9 = 0 := by
             rcases hsl9 with w | ⟨w0, w1, -⟩
             · exact w.2
             · rw [h18] at w1; cases w1
           have g83 := (old (x + 83) (by omega)).2.2
           refine h34 k9 _ _ _ _ _ z hk9 rfl ?_ (u2_s _ _ _ _) (e4.mono (Nat.le_refl _) fun w h2 h3 => ⟨rfl, rfl, u2_row (by omega)⟩) hx ?_ ⟨by omega, fun a ha => (old a ha).1, fun a h2 h3 => ⟨(old a (by omega)).2.1, by rw [u2_row (by omega)]; exact (old a (by omega)).2.2⟩⟩
           · have w1 : u2 (u2 R9 (x + 83) ((k9 : Int).toNat) (some z)) (x + 83) k9 none = R9 := by
               rw [show (k9 : Int).toNat = k9 from rfl, u2u2]
               have w2 := u2_self R9 (x + 83) k9
               rw [show R9 (x + 83) k9 = none by rw [g83]; exact h18] at w2
               exact w2
             have w3 : st1 v0 k9 0 = v0 := by
               funext j
               unfold st1
               split
               · rename_i y; rw [y]; exact hv0.symm
               · rfl
             rw [w1, w3]
             exact gC
           · rw [show (k9 : Int).toNat = k9 from rfl, u2_k (by omega), g83]
             intro y
             have w5 := cSl.1 (1 - k9) (by omega)
             rcases w5 with w | ⟨w0, w1, w2, w3, w4⟩
             · rw [y] at w; cases w.1
             · rw [y] at w1
               cases w1
               exact absurd w4.1.1.2.1 (Nat.lt_irrefl _))
        | (obtain ⟨w0, w1, w2, w3, w4⟩ : ∃ w0 : Nat, R (x + 83) k9 = some w0 ∧ v0 k9 = 1 ∧ x + 100 ≤ w0 ∧ TQ G (x + 100) z K N I R w0 (fun i => s0 (236 * k9 + i)) := by
             rcases hsl9 with w | w
             · rw [w.1] at h18; cases h18
             · exact w
           refine z_widen (k := 10) (n := 59) (Nat.le_of_ble_eq_true rfl) (Nat.le_of_ble_eq_true rfl) ?_
           refine h34 k9 _ _ _ _ _ w0 hk9 rfl (hC.drop hk9) w1 w4.1 w3 ?_ FrM.rfl
           rcases cSl.2 with y | y
           · rcases (show k9 = 0 ∨ k9 = 1 by omega) with q | q
             · subst q; rw [y] at w1; cases w1
             · subst q; rw [show 1 - 1 = 0 from rfl, y]; exact fun q => by cases q
           · rcases (show k9 = 0 ∨ k9 = 1 by omega) with q | q
             · subst q; exact fun q => y (w1.trans q.symm)
             · subst q; exact fun q => y (q.trans w1.symm))
      · refine z_aload_n C dX6_save_21 rfl ?_
        refine z_gR C (ci := 6) (k := 2) rfl (by decide) rfl (by decide) wl_6 wq_1_21 (by decide) dX6_save_22 (by assumption) (by assumption) ?_
        refine z_iload_n C dX6_save_25 rfl ?_
        refine z_new C 4 (C0 := RX4) (T0 := TX4) (N0 := 6) rfl (by decide) rfl tyX4_ok dfv_4 wl_4 wq_1_13 wq_1_14 wq_1_15 dX6_save_26 (Nat.le_of_ble_eq_true rfl) (Nat.le_of_ble_eq_true rfl) ?_
        refine z_dup C dX6_save_29 rfl ?_
        refine z_callI C (mX4_init l G (t := z) rfl (zK_new 4 (zK_z cx))) (cwI 0 C.2.2.2.2.1 gn_X4_init rfl rfl rfl (C.2.2.2.2.1 _ wq_1_15) (C.2.2.2.2.1 _ wq_2_6) (C.2.2.2.2.1 _ wq_2_7) rfl hs_X4_init ⟨Nat.le_of_ble_eq_true rfl, Nat.le_of_ble_eq_true rfl⟩) rfl rfl (Nat.le_of_ble_eq_true rfl) dX6_save_30 ⟨(Nat.le_of_ble_eq_true rfl), (Nat.le_of_ble_eq_true rfl)⟩ ?_
        intro r9 z9 K9 N9 I9 R9 ⟨e1, e2, e3, e4, e5⟩
        subst e1; subst e2
        have old : ∀ a : Nat, a < z → (K9 a = K a ∧ N9 a = N a) ∧ I9 a = I a ∧ R9 a = R a := fun a ha => by
          obtain ⟨w1, w2, w3, w4⟩ := e3 a (by omega)
          have w5 := w4 (by omega)
          rw [va_up_n (by omega)] at w1 w3 w5
          exact ⟨⟨w1, w2⟩, w3, w5⟩
        have gC := hC.grow (show z ≤ z + 10 by omega) old
        have gS := gC.2.1.2.1.1
        have gN := gC.2.1.2.1.2
        refine z_conv (st' := [.ref z, .int (zI (k9 : Int)), .ref (x + 83)]) rfl rfl rfl rfl ?_
        refine z_aast C 11 4 (Or.inr ⟨rfl, rfl⟩) (by decide) rfl dX6_save_33 gS e4.1 (by rw [gN]; omega) (by omega) ?_
        first
        | (have hv0 : v0 k9 = 0 := by
             rcases hsl9 with w | ⟨w0, w1, -⟩
             · exact w.2
             · rw [h18] at w1; cases w1
           have g83 := (old (x + 83) (by omega)).2.2
           refine h34 k9 _ _ _ _ _ z hk9 rfl ?_ (u2_s _ _ _ _) (e4.mono (Nat.le_refl _) fun w h2 h3 => ⟨rfl, rfl, u2_row (by omega)⟩) hx ?_ ⟨by omega, fun a ha => (old a ha).1, fun a h2 h3 => ⟨(old a (by omega)).2.1, by rw [u2_row (by omega)]; exact (old a (by omega)).2.2⟩⟩
           · have w1 : u2 (u2 R9 (x + 83) ((k9 : Int).toNat) (some z)) (x + 83) k9 none = R9 := by
               rw [show (k9 : Int).toNat = k9 from rfl, u2u2]
               have w2 := u2_self R9 (x + 83) k9
               rw [show R9 (x + 83) k9 = none by rw [g83]; exact h18] at w2
               exact w2
             have w3 : st1 v0 k9 0 = v0 := by
               funext j
               unfold st1
               split
               · rename_i y; rw [y]; exact hv0.symm
               · rfl
             rw [w1, w3]
             exact gC
           · rw [show (k9 : Int).toNat = k9 from rfl, u2_k (by omega), g83]
             intro y
             have w5 := cSl.1 (1 - k9) (by omega)
             rcases w5 with w | ⟨w0, w1, w2, w3, w4⟩
             · rw [y] at w; cases w.1
             · rw [y] at w1
               cases w1
               exact absurd w4.1.1.2.1 (Nat.lt_irrefl _))
        | (obtain ⟨w0, w1, w2, w3, w4⟩ : ∃ w0 : Nat, R (x + 83) k9 = some w0 ∧ v0 k9 = 1 ∧ x + 100 ≤ w0 ∧ TQ G (x + 100) z K N I R w0 (fun i => s0 (236 * k9 + i)) := by
             rcases hsl9 with w | w
             · rw [w.1] at h18; cases h18
             · exact w
           refine z_widen (k := 10) (n := 59) (Nat.le_of_ble_eq_true rfl) (Nat.le_of_ble_eq_true rfl) ?_
           refine h34 k9 _ _ _ _ _ w0 hk9 rfl (hC.drop hk9) w1 w4.1 w3 ?_ FrM.rfl
           rcases cSl.2 with y | y
           · rcases (show k9 = 0 ∨ k9 = 1 by omega) with q | q
             · subst q; rw [y] at w1; cases w1
             · subst q; rw [show 1 - 1 = 0 from rfl, y]; exact fun q => by cases q
           · rcases (show k9 = 0 ∨ k9 = 1 by omega) with q | q
             · subst q; exact fun q => y (w1.trans q.symm)
             · subst q; exact fun q => y (q.trans w1.symm))
    · have hno : ¬ (0 ≤ sl ∧ sl ≤ 1) := by omega
      refine z_bipush C dX6_save_9 (by decide) ?_
      refine z_widen (k := 10) (n := 59) (Nat.le_of_ble_eq_true rfl) (Nat.le_of_ble_eq_true rfl) ?_
      exact z_iret2 C hQ rfl dX6_save_11 ⟨zr (if_neg hno).symm, FrM.rfl, by rw [if_neg hno, if_neg hno]; exact hC⟩

set_option maxHeartbeats 4000000 in
set_option maxRecDepth 100000 in
theorem mX6_restore (l : Launch) (G : GG) {z : Nat} {K N : Nat → Nat} {I : MI} {R : MR} {x : Nat} {f h s0 v0 P : Nat → Int} {n len : Int} (hC : CI G x z K N I R f h s0 v0 P n len) (hx : x + 100 ≤ z) {sl : Int} (hsl : -2147483648 ≤ sl ∧ sl < 2147483648) : Con l G yX6_restore (Cond.code yX6_restore cX6_restore 2 (some .int) :: wsL_law) ⟨3, 0, 0, 69⟩ 0 0 [.ref x, .int (zI sl)] z K N I R (fun r z' K' N' I' R' => r = some (.int (zI (if 0 ≤ sl ∧ sl ≤ 1 then (if v0 sl.toNat = 0 then -5 else movF s0 f (236 * sl.toNat) 0 3) else -2))) ∧ CPc G x z K N I R (if 0 ≤ sl ∧ sl ≤ 1 then (if v0 sl.toNat = 0 then -5 else movF s0 f (236 * sl.toNat) 0 3) else -2) (if (0 ≤ sl ∧ sl ≤ 1) ∧ ¬ v0 sl.toNat = 0 then movF s0 f (236 * sl.toNat) 0 else f) f h s0 v0 P n len z' K' N' I' R') := by
  refine Con.of (own := RX6) (cc := cX6_restore) (maxL := 2) (ret := (some .int)) (by decide +kernel) rfl rfl (Nat.le_of_ble_eq_true rfl) (by decide) rfl ?_
  intro p e9 s mt args below meth c Q hin hQ C
  obtain ⟨⟨cx, cr0, cr1, cr2, cr3, cr4⟩, ⟨cH, ⟨cS, cN⟩, cX, cP⟩, cT, ⟨cp, cn, cm, cJ⟩, cSl, cPd⟩ := id hC
  have kn := cT.1.1
  have kh := cH.1
  obtain ⟨q, hq⟩ := Int.eq_ofNat_of_zero_le cp.1
  have hq7 : q < 7 := by omega
  refine z_iload_n C dX6_restore_0 rfl ?_
  refine z_if_lt C (tgt := 9) dX6_restore_1 (by decide) (by first | omega | exact b2i_r) (fun h1 => ?_) (fun h1 => ?_)
  · have hno : ¬ (0 ≤ sl ∧ sl ≤ 1) := by omega
    refine z_bipush C dX6_restore_9 (by decide) ?_
    exact z_iret2 C hQ rfl dX6_restore_11 ⟨zr (by first | exact (if_neg hno).symm | exact ((if_pos hcc).trans (if_pos hv0)).symm | exact ((if_pos hcc).trans (if_neg hv1)).symm), by first | exact ⟨FrM.rfl, fun z9 => absurd z9 (by rw [if_neg hno]; omega), fun _ => hC⟩ | exact ⟨FrM.rfl, fun z9 => absurd z9 (by rw [if_pos hcc, if_pos hv0]; omega), fun _ => hC⟩ | (rw [if_pos hcc, if_neg hv1, if_pos ⟨hcc, hv1⟩]; exact CPc_fin oC oq oU oM (fun z9 => absurd o3.1 z9))⟩
  · refine z_iload_n C dX6_restore_4 rfl ?_
    refine z_iconst C dX6_restore_5 ?_
    refine z_icmp_lt C (tgt := 12) dX6_restore_6 (by decide) (by first | omega | exact b2i_r) (by first | omega | exact b2i_r) (fun h6 => ?_) (fun h6 => ?_)
    · obtain ⟨k9, hk8⟩ := Int.eq_ofNat_of_zero_le (show 0 ≤ sl by omega)
      subst hk8
      have hk9 : k9 < 2 := by omega
      have hcc : 0 ≤ (k9 : Int) ∧ (k9 : Int) ≤ 1 := by omega
      simp only [Int.toNat_natCast] at hQ
      have hsl9 := cSl.1 k9 hk9
      refine z_aload_n C dX6_restore_12 rfl ?_
      refine z_gR C (ci := 6) (k := 2) rfl (by decide) rfl (by decide) wl_6 wq_1_21 (by decide) dX6_restore_13 (by assumption) (by assumption) ?_
      refine z_iload_n C dX6_restore_16 rfl ?_
      refine z_aaldk C (k9) 11 (by decide) dX6_restore_17 (by assumption) (by first | rfl | omega) (by omega) (by omega) ?_
      refine z_ifnonnull C (tgt := 24) dX6_restore_18 (by decide) (fun x18 h18 => ?_) (fun h18 => ?_)
      · refine z_aload_n C dX6_restore_24 rfl ?_
        refine z_gR C (ci := 6) (k := 1) rfl (by decide) rfl (by decide) wl_6 wq_1_20 (by decide) dX6_restore_25 (by assumption) (by assumption) ?_
        refine z_aload_n C dX6_restore_28 rfl ?_
        refine z_gR C (ci := 6) (k := 0) rfl (by decide) rfl (by decide) wl_6 wq_1_16 (by decide) dX6_restore_29 (by assumption) (by assumption) ?_
        refine z_callVd C (ci := 2) rfl (by decide) (by assumption) (mX2_remember l G cH cT.1 (by omega) hq hq7) (cwV 1 C.2.2.2.2.1 gv6_41 rfl rfl rfl hd_X2_remember ⟨Nat.le_of_ble_eq_true rfl, Nat.le_of_ble_eq_true rfl⟩) rfl rfl (Nat.le_of_ble_eq_true rfl) dX6_restore_32 ⟨Nat.zero_le _, Nat.zero_le _⟩ ?_
        refine z_gen (fun I' R' => CI G x z K N I' R' f h s0 v0 P n len ∧ TQ G (x + 100) z K N I' R' (x + 13 + 10 * q) f ∧ ∀ a : Nat, (a < x + 13 ∨ x + 83 ≤ a) → I' a = I a ∧ R' a = R a) (hC.rem2 hq) ?_
        intro I1 R1 ⟨dC, dU, dF⟩
        obtain ⟨⟨ex, er0, er1, er2, er3, er4⟩, ⟨eH, ⟨eS, eN⟩, eX, eP⟩, eT, ⟨ep, en, em, eJ⟩, eSl, ePd⟩ := id dC
        have dq : I1 (x + 11) 1 = (q : Int) := by rw [(dF (x + 11) (by omega)).1]; exact hq
        have hf1 : FrM x z K N I R z K N I1 R1 := ⟨Nat.le_refl z, fun _ _ => ⟨rfl, rfl⟩, fun a h1 h2 => dF a (by omega)⟩
        have hR83 := (dF (x + 83) (by omega)).2
        obtain ⟨w2, w3, w4⟩ : v0 k9 = 1 ∧ x + 100 ≤ x18 ∧ TQ G (x + 100) z K N I1 R1 x18 (fun i => s0 (236 * k9 + i)) := by
          have w := eSl.1 k9 hk9
          rw [hR83, h18] at w
          rcases w with ⟨w1, w2⟩ | ⟨sl9, w1, w2, w3, w4⟩
          · cases w1
          · cases w1; exact ⟨w2, w3, w4⟩
        have hv1 : ¬ v0 k9 = 0 := by omega
        refine z_aload_n C dX6_restore_35 rfl ?_
        refine z_gR C (ci := 6) (k := 0) rfl (by decide) rfl (by decide) wl_6 wq_1_16 (by decide) dX6_restore_36 (by assumption) (by assumption) ?_
        refine z_aload_n C dX6_restore_39 rfl ?_
        refine z_gR C (ci := 6) (k := 2) rfl (by decide) rfl (by decide) wl_6 wq_1_21 (by decide) dX6_restore_40 (by assumption) (by assumption) ?_
        refine z_iload_n C dX6_restore_43 rfl ?_
        refine z_aaldk C (k9) 11 (by decide) dX6_restore_44 (by assumption) (by first | rfl | omega) (by omega) (by omega) ?_
        refine z_top (y := .ref x18) (by rw [hR83, h18]; rfl) ?_
        refine z_callVd C (ci := 4) rfl (by decide) (by assumption) (mX4_copyFrom l G eT.1 w4.1 (by omega)) (cwV 1 C.2.2.2.2.1 gv6_200 rfl rfl rfl hd_X4_copyFrom ⟨Nat.le_of_ble_eq_true rfl, Nat.le_of_ble_eq_true rfl⟩) rfl rfl (Nat.le_of_ble_eq_true rfl) dX6_restore_45 ⟨Nat.zero_le _, Nat.zero_le _⟩ ?_
        refine z_gen (fun I' R' => OpT G x z K N I1 R1 (movF s0 f (236 * k9) 0) I' R') (dC.cpn w4 fun j hj => by
          unfold movF
          rw [if_pos (by omega)]
          exact congrArg s0 (by omega)) ?_
        intro I2 R2 ⟨oT, oF⟩
        have oS : StK x z K N I1 R1 z K N I2 R2 := StK.op oF
        have oC := dC.stp oS oT
        have oU := dU.stk oS (by omega)
        have oM := hf1.stk hx oS
        have oq : I2 (x + 11) 1 = (q : Int) := by rw [(oF (x + 11) (by omega)).1]; exact dq
        have oH := oC.2.1.1
        have koh := oH.1
        obtain ⟨or0, or1⟩ : R2 x 0 = some (x + 1) ∧ R2 x 1 = some (x + 11) := ⟨oC.1.2.1, oC.1.2.2.1⟩
        obtain ⟨og, on, ok, -⟩ := oC.2.2.2.1
        have o3 := oT.2.2.1.2.2.2.1
        refine z_aload_n C dX6_restore_48 rfl ?_
        refine z_gR C (ci := 6) (k := 1) rfl (by decide) rfl (by decide) wl_6 wq_1_20 (by decide) dX6_restore_49 (by assumption) (by assumption) ?_
        refine z_aload_n C dX6_restore_52 rfl ?_
        refine z_gR C (ci := 6) (k := 0) rfl (by decide) rfl (by decide) wl_6 wq_1_16 (by decide) dX6_restore_53 (by assumption) (by assumption) ?_
        refine z_gI C (ci := 4) (k := 3) rfl (by decide) rfl (by decide) wl_4 wq_21_12 rfl dX6_restore_56 (by assumption) ?_
        rw [oT.2.1.2.1.1]
        refine z_callVd C (ci := 2) rfl (by decide) (by assumption) (mX2_settle l G oH (by omega) og (by rw [on]; exact ok)) (cwV 1 C.2.2.2.2.1 gv6_49 rfl rfl rfl hd_X2_settle ⟨Nat.le_of_ble_eq_true rfl, Nat.le_of_ble_eq_true rfl⟩) rfl rfl (Nat.le_of_ble_eq_true rfl) dX6_restore_59 ⟨Nat.zero_le _, Nat.zero_le _⟩ ?_
        exact z_iret2 C hQ rfl dX6_restore_62 ⟨zr (by first | exact (if_neg hno).symm | exact ((if_pos hcc).trans (if_pos hv0)).symm | exact ((if_pos hcc).trans (if_neg hv1)).symm), by first | exact ⟨FrM.rfl, fun z9 => absurd z9 (by rw [if_neg hno]; omega), fun _ => hC⟩ | exact ⟨FrM.rfl, fun z9 => absurd z9 (by rw [if_pos hcc, if_pos hv0]; omega), fun _ => hC⟩ | (rw [if_pos hcc, if_neg hv1, if_pos ⟨hcc, hv1⟩]; exact CPc_fin oC oq oU oM (fun z9 => absurd o3.1 z9))⟩
      · have hv0 : v0 k9 = 0 := by
          rcases hsl9 with w | ⟨w0, w1, -⟩
          · exact w.2
          · rw [h18] at w1; cases w1
        refine z_bipush C dX6_restore_21 (by decide) ?_
        exact z_iret2 C hQ rfl dX6_restore_23 ⟨zr (by first | exact (if_neg hno).symm | exact ((if_pos hcc).trans (if_pos hv0)).symm | exact ((if_pos hcc).trans (if_neg hv1)).symm), by first | exact ⟨FrM.rfl, fun z9 => absurd z9 (by rw [if_neg hno]; omega), fun _ => hC⟩ | exact ⟨FrM.rfl, fun z9 => absurd z9 (by rw [if_pos hcc, if_pos hv0]; omega), fun _ => hC⟩ | (rw [if_pos hcc, if_neg hv1, if_pos ⟨hcc, hv1⟩]; exact CPc_fin oC oq oU oM (fun z9 => absurd o3.1 z9))⟩
    · have hno : ¬ (0 ≤ sl ∧ sl ≤ 1) := by omega
      refine z_bipush C dX6_restore_9 (by decide) ?_
      exact z_iret2 C hQ rfl dX6_restore_11 ⟨zr (by first | exact (if_neg hno).symm | exact ((if_pos hcc).trans (if_pos hv0)).symm | exact ((if_pos hcc).trans (if_neg hv1)).symm), by first | exact ⟨FrM.rfl, fun z9 => absurd z9 (by rw [if_neg hno]; omega), fun _ => hC⟩ | exact ⟨FrM.rfl, fun z9 => absurd z9 (by rw [if_pos hcc, if_pos hv0]; omega), fun _ => hC⟩ | (rw [if_pos hcc, if_neg hv1, if_pos ⟨hcc, hv1⟩]; exact CPc_fin oC oq oU oM (fun z9 => absurd o3.1 z9))⟩

