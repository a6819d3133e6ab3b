/-! what each change does to the tester and to the row -/
theorem TQ.mk {G : GG} {X z z' : Nat} {K N K' N' : Nat → Nat} {I I' : MI} {R R' : MR} {t : Nat} {f f' : Nat → Int} (h : TQ G X z K N I R t f) (hc : CK X z K N I R z' K' N' I' R') (hS : ShT G z' K' N' R' t) (hT : TN I' t f') (hO : Ok f')
    (hv : ∀ g : Nat, (g : Int) < f' 5 → (R' (t + 4 + g) 4 = none ∧ f' (24 + 36 * g) = 0) ∨ ((g : Int) < f 5 ∧ R' (t + 4 + g) 4 = R (t + 4 + g) 4 ∧ f' 3 = f 3 ∧ ∀ j : Nat, 24 ≤ j → j < 56 → f' (j + 36 * g) = f (j + 36 * g))) : TQ G X z' K' N' I' R' t f' := by
  refine ⟨hS, hT, hO, fun g hg => ?_⟩
  have h3 := h.2.2.1.2.2.2.1
  rcases hv g hg with w | ⟨w1, w2, w3, w4⟩
  · exact Or.inl w
  · rw [w2]
    exact ((h.2.2.2 g w1).keep hc).cong w3 (fun j j1 j2 => w4 j j1 (by omega)) h3.1
theorem haI_o (I : MI) (t : Nat) (P : Int) (n a : Nat) (h : a < t + 4 ∨ t + 4 + n ≤ a) : haI I t P n a = I a := by
  funext j
  exact haI_n _ _ _ _ _ _ (by omega)
theorem voR_o (R : MR) (t n a : Nat) (h : a < t + 4 ∨ t + 4 + n ≤ a) : voR R t n a = R a := by
  funext j
  exact voR_n _ _ _ _ _ (by omega)
theorem voR_g (R : MR) (t n g : Nat) (h : g < n) : voR R t n (t + 4 + g) 4 = none := if_pos (by omega)
theorem handsF_hi (f : Nat → Int) (j g : Nat) (h : 24 ≤ j) (h2 : j < 56) : handsF f (j + 36 * g) = f (j + 36 * g) := if_neg (by omega)
theorem handsF_lo (f : Nat → Int) (j : Nat) (h : j < 20) : handsF f j = f j := if_neg (by omega)
theorem voidsF_24 (f : Nat → Int) (g : Nat) (h : g < 6) : voidsF f (24 + 36 * g) = 0 := if_pos (by omega)
theorem voidsF_20 (f : Nat → Int) (j : Nat) (h : j < 20) : voidsF f j = f j := if_neg (by omega)
theorem setsV_lo (f : Nat → Int) (s : Nat) (v : Int) (j : Nat) (h3 : 3 ≤ j) (h : j < 20) (hs : s < 3) : setsV f s v j = f j := by
  unfold setsV
  split
  · rw [voidsF_20 _ _ h, st1_n (by omega)]
  · rw [st1_n (by omega)]
theorem TQ.sets {G : GG} {X z : Nat} {K N : Nat → Nat} {I : MI} {R : MR} {t : Nat} {f : Nat → Int} (h : TQ G X z K N I R t f) {s : Nat} {v : Int} (hs : isVal (s : Int) v) : TQ G X z K N (haI (u2 I (t + 1) s v) t (prsA (setsV f s v) (setsV f s v 4)) (setsV f s v 5).toNat) (if s = 1 then voR R t (f 5).toNat else R) t (setsF f s v) := by
  have hs3 : s < 3 := by omega
  obtain ⟨a, b, c, d⟩ := id h
  have h3 := c.2.2.2.1
  have h5 := c.2.2.2.2.2.1
  have e5 := setsV_lo f s v 5 (by omega) (by omega) hs3
  refine h.mk (CK.blk a fun q hq => ⟨?_, ?_⟩) ?_ ((b.e_setsV h3.2 hs3 v).hands (by rw [setsV_lo _ _ _ _ (by omega) (by omega) hs3]; exact h3.2)) ?_ fun g hg => ?_
  · rw [haI_o _ _ _ _ _ (by rw [e5]; omega), u2_row (by omega)]
  · split
    · exact voR_o _ _ _ _ (by omega)
    · rfl
  · split
    · exact a.vo _
    · exact a
  · exact (c.h_setsV hs).h_handsF
  · have hg5 : (g : Int) < f 5 := by
      have : setsF f s v 5 = f 5 := by unfold setsF; rw [handsF_lo _ _ (by omega), e5]
      omega
    by_cases e : s = 1
    · left
      rw [if_pos e]
      refine ⟨voR_g _ _ _ _ (by omega), ?_⟩
      unfold setsF
      rw [handsF_hi _ 24 _ (by omega) (by omega)]
      unfold setsV
      rw [if_pos e, voidsF_24 _ _ (by omega)]
    · right
      rw [if_neg e]
      refine ⟨hg5, rfl, ?_, fun j j1 j2 => ?_⟩
      · unfold setsF; rw [handsF_lo _ _ (by omega), setsV_lo _ _ _ _ (by omega) (by omega) hs3]
      · unfold setsF
        rw [handsF_hi _ _ _ j1 j2]
        unfold setsV
        rw [if_neg e, st1_n (by omega)]
theorem TQ.ring {G : GG} {X z : Nat} {K N : Nat → Nat} {I : MI} {R : MR} {t : Nat} {f : Nat → Int} (h : TQ G X z K N I R t f) {v : Int} (hv : 1 ≤ v ∧ v ≤ 9999) (h14 : ¬ f 3 = 14) : TQ G X z K N (u2 (u2 I (t + 2) (f 3).toNat v) t 3 (f 3 + 1)) (voR R t (f 5).toNat) t (comesF f v) := by
  obtain ⟨a, b, c, d⟩ := id h
  have h3 := c.2.2.2.1
  have h5 := c.2.2.2.2.2.1
  refine h.mk (CK.blk a fun q hq => ⟨?_, voR_o _ _ _ _ (by omega)⟩) (a.vo _) (b.comes (by omega) h3.1 v) (c.comes (by omega) hv) fun g hg => ?_
  · rw [u2_row (by omega), u2_row (by omega)]
  · have e : comesF f v 5 = f 5 := by
      unfold comesF
      rw [voidsF_20 _ _ (by omega), st1_n (by omega), st1_n (by omega)]
    left
    exact ⟨voR_g _ _ _ _ (by omega), voidsF_24 _ _ (by omega)⟩
theorem TQ.lose {G : GG} {X z : Nat} {K N : Nat → Nat} {I : MI} {R : MR} {t : Nat} {f : Nat → Int} (h : TQ G X z K N I R t f) (h0 : ¬ f 3 = 0) : TQ G X z K N (haI (u2 (u2 I t 3 (f 3 - 1)) t 4 (clrb (f 4) (f 3 - 1).toNat)) t (prsA (loseV f) ((loseV f) 4)) (f 5).toNat) (voR R t (f 5).toNat) t (loseF f) := by
  obtain ⟨a, b, c, d⟩ := id h
  have h3 := c.2.2.2.1
  have h5 := c.2.2.2.2.2.1
  have e5 := loseV_5 f h3.2
  have hT := (b.lose (by omega) h3.2).hands (c.h_loseV (by omega)).2.2.2.1.2
  rw [e5] at hT
  refine h.mk (CK.blk a fun q hq => ⟨?_, voR_o _ _ _ _ (by omega)⟩) (a.vo _) hT (c.h_loseV (by omega)).h_handsF fun g hg => ?_
  · rw [haI_o _ _ _ _ _ (by omega), u2_row (by omega), u2_row (by omega)]
  · have e : loseF f 5 = f 5 := by unfold loseF; rw [handsF_lo _ _ (by omega), e5]
    left
    refine ⟨voR_g _ _ _ _ (by omega), ?_⟩
    unfold loseF
    rw [handsF_hi _ 24 _ (by omega) (by omega)]
    exact voidsF_24 _ _ (by omega)
theorem TQ.move {G : GG} {X z : Nat} {K N : Nat → Nat} {I : MI} {R : MR} {t : Nat} {f : Nat → Int} (h : TQ G X z K N I R t f) {r : Nat} (hr : (r : Int) < f 3) : TQ G X z K N (haI (u2 I t 4 (flipb (f 4) r)) t (prsA (movV f r) ((movV f r) 4)) ((movV f r) 5).toNat) R t (moveF f r) := by
  obtain ⟨a, b, c, d⟩ := id h
  have h3 := c.2.2.2.1
  have h5 := c.2.2.2.2.2.1
  have e5 : movV f r 5 = f 5 := st1_n (by omega)
  refine h.mk (CK.blk a fun q hq => ⟨?_, rfl⟩) a ((b.mov r).hands (c.h_movV hr).2.2.2.1.2) (c.h_movV hr).h_handsF fun g hg => Or.inr ⟨?_, rfl, ?_, fun j j1 j2 => ?_⟩
  · rw [haI_o _ _ _ _ _ (by rw [e5]; omega), u2_row (by omega)]
  · have e : moveF f r 5 = f 5 := by unfold moveF; rw [handsF_lo _ _ (by omega), e5]
    omega
  · unfold moveF; rw [handsF_lo _ _ (by omega)]; exact st1_n (by omega)
  · unfold moveF; rw [handsF_hi _ _ _ j1 j2]; exact st1_n (by omega)
theorem prsA_cong2 {f f' : Nat → Int} {sm : Int} (h0 : f' 0 = f 0) (h1 : f' 1 = f 1) (h3 : f' 3 = f 3) (h : ∀ r : Nat, (r : Int) < f 3 → f' (6 + r) = f (6 + r)) (h0p : 0 ≤ f 3) : prsA f' sm = prsA f sm := by
  unfold prsA massA
  rw [h0, h1, h3, massS_cong (f 3).toNat fun r hr => h r (by omega)]
theorem TQ.gauge {G : GG} {X z : Nat} {K N : Nat → Nat} {I : MI} {R : MR} {t : Nat} {f : Nat → Int} (h : TQ G X z K N I R t f) {er pl sp : Int} (hv : (-99 ≤ er ∧ er ≤ 99) ∧ (0 ≤ pl ∧ pl ≤ 99) ∧ (1 ≤ sp ∧ sp ≤ 99)) (h6 : ¬ f 5 = 6) :
    TQ G X z K N (u2 (u2 (va_up I (t + 4 + (f 5).toNat) (gR er pl sp (I (t + 4 + (f 5).toNat)))) (t + 4 + (f 5).toNat) 3 (goes 0 (prsA f (f 4)) er pl)) t 5 (f 5 + 1)) (u2 R (t + 4 + (f 5).toNat) 4 none) t (gaugeF f er pl sp) := by
  obtain ⟨a, b, c, d⟩ := id h
  have h3 := c.2.2.2.1
  have h5 := c.2.2.2.2.2.1
  obtain ⟨q, hq⟩ := Int.eq_ofNat_of_zero_le h5.1
  rw [show (f 5).toNat = q by omega]
  have g0 : gaugeF f er pl sp = handG (gaugeV f q er pl sp) q := by unfold gaugeF; rw [show (f 5).toNat = q by omega]
  rw [g0]
  have gl : ∀ j : Nat, j ≠ 5 → (j < 20 + 36 * q ∨ 56 + 36 * q ≤ j) → gaugeV f q er pl sp j = f j := fun j j1 j2 => by
    unfold gaugeV
    rw [st1_n j1, st1_n (by omega), st1_n (by omega), st1_n (by omega)]
    exact if_neg (by omega)
  have gz : ∀ j : Nat, j < 36 → 3 ≤ j → gaugeV f q er pl sp (20 + 36 * q + j) = 0 := fun j j1 j2 => by
    unfold gaugeV
    rw [st1_n (by omega), st1_n (by omega), st1_n (by omega), st1_n (by omega)]
    exact if_pos (by omega)
  have gv0 : gaugeV f q er pl sp (20 + 36 * q) = er := by
    unfold gaugeV
    rw [st1_n (by omega), st1_n (by omega), st1_n (by omega), st1_s]
  have gv1 : gaugeV f q er pl sp (21 + 36 * q) = pl := by
    unfold gaugeV
    rw [st1_n (by omega), st1_n (by omega), st1_s]
  have gv2 : gaugeV f q er pl sp (22 + 36 * q) = sp := by
    unfold gaugeV
    rw [st1_n (by omega), st1_s]
  have gv5 : gaugeV f q er pl sp 5 = f 5 + 1 := st1_s _ _ _
  have gv3 : gaugeV f q er pl sp (23 + 36 * q) = 0 := by
    have := gz 3 (by omega) (by omega)
    rwa [show 20 + 36 * q + 3 = 23 + 36 * q by omega] at this
  have gp : prsA (gaugeV f q er pl sp) (gaugeV f q er pl sp 4) = prsA f (f 4) := by
    rw [gl 4 (by omega) (by omega)]
    exact prsA_cong2 (gl 0 (by omega) (by omega)) (gl 1 (by omega) (by omega)) (gl 3 (by omega) (by omega)) (fun r hr => gl _ (by omega) (by omega)) h3.1
  have hh : ∀ j : Nat, j ≠ 23 + 36 * q → handG (gaugeV f q er pl sp) q j = gaugeV f q er pl sp j := fun j hj => st1_n hj
  have h23 : handG (gaugeV f q er pl sp) q (23 + 36 * q) = goes 0 (prsA f (f 4)) er pl := by
    unfold handG
    rw [st1_s, gv3, gp, gv0, gv1]
  refine h.mk (CK.blk a fun w hw => ⟨?_, u2_row (by omega)⟩) (a.u2 4 none (by omega) (by omega)) ?_ ?_ fun g hg => ?_
  · rw [u2_row (by omega), u2_row (by omega), va_up_n (by omega)]
  · obtain ⟨⟨b0, b1, b2⟩, ⟨b3, b4, b5⟩, b6, b7⟩ := b
    refine ⟨⟨?_, ?_, ?_⟩, ⟨?_, ?_, ?_⟩, fun r hr => ?_, fun g hg => ?_⟩
    · rw [u2_row (by omega), u2_row (by omega), va_up_n (by omega), hh _ (by omega), gl _ (by omega) (by omega)]; exact b0
    · rw [u2_row (by omega), u2_row (by omega), va_up_n (by omega), hh _ (by omega), gl _ (by omega) (by omega)]; exact b1
    · rw [u2_row (by omega), u2_row (by omega), va_up_n (by omega), hh _ (by omega), gl _ (by omega) (by omega)]; exact b2
    · rw [u2_k (by omega), u2_row (by omega), va_up_n (by omega), hh _ (by omega), gl _ (by omega) (by omega)]; exact b3
    · rw [u2_k (by omega), u2_row (by omega), va_up_n (by omega), hh _ (by omega), gl _ (by omega) (by omega)]; exact b4
    · rw [u2_s, hh _ (by omega), gv5]
    · rw [hh _ (by omega), gl _ (by omega) (by omega)] at hr
      rw [u2_row (by omega), u2_row (by omega), va_up_n (by omega), hh _ (by omega), gl _ (by omega) (by omega)]; exact b6 r hr
    · rw [hh _ (by omega), gv5] at hg
      rw [u2_row (by omega)]
      by_cases e : g = q
      · subst e
        rw [u2_k (by omega), u2_k (by omega), u2_k (by omega), u2_s, va_up_s, gR_0, gR_1, gR_2, h23, hh _ (by omega), hh _ (by omega), hh _ (by omega), gv0, gv1, gv2]
        exact ⟨rfl, rfl, rfl, rfl⟩
      · rw [u2_row (by omega), va_up_n (by omega), hh _ (by omega), hh _ (by omega), hh _ (by omega), hh _ (by omega), gl _ (by omega) (by omega), gl _ (by omega) (by omega), gl _ (by omega) (by omega), gl _ (by omega) (by omega)]
        exact b7 g (by omega)
  · have := c.h_gaugeV (by omega) hv.1 hv.2.1 hv.2.2
    rw [show (f 5).toNat = q by omega] at this
    exact this.h_handG (by rw [gv5]; omega)
  · rw [hh _ (by omega), gv5] at hg
    by_cases e : g = q
    · subst e
      left
      refine ⟨u2_s _ _ _ _, ?_⟩
      have := gz 4 (by omega) (by omega)
      rw [hh _ (by omega)]
      rwa [show 20 + 36 * g + 4 = 24 + 36 * g by omega] at this
    · right
      refine ⟨by omega, by rw [u2_row (by omega)], ?_, fun j j1 j2 => ?_⟩
      · rw [hh _ (by omega), gl _ (by omega) (by omega)]
      · rw [hh _ (by omega), gl _ (by omega) (by omega)]
theorem TQ.tune {G : GG} {X z : Nat} {K N : Nat → Nat} {I : MI} {R : MR} {t : Nat} {f : Nat → Int} (h : TQ G X z K N I R t f) {q : Nat} (hq : (q : Int) < f 5) {er : Int} (he : -99 ≤ er ∧ er ≤ 99) :
    TQ G X z K N (u2 (u2 I (t + 4 + q) 0 er) (t + 4 + q) 3 (goes (f (23 + 36 * q)) (prsA f (f 4)) er (f (21 + 36 * q)))) (u2 R (t + 4 + q) 4 none) t (tuneF f q er) := by
  obtain ⟨a, b, c, d⟩ := id h
  have h3 := c.2.2.2.1
  have h5 := c.2.2.2.2.2.1
  have gl : ∀ j : Nat, (j < 20 + 36 * q ∨ 56 + 36 * q ≤ j) → tuneV f q er j = f j := fun j j2 => by
    unfold tuneV voidF voidK
    rw [if_neg (by omega), st1_n (by omega)]
  have gv0 : tuneV f q er (20 + 36 * q) = er := by
    unfold tuneV voidF voidK
    rw [if_neg (by omega), st1_s]
  have gv1 : ∀ j : Nat, 1 ≤ j → j < 4 → tuneV f q er (20 + 36 * q + j) = f (20 + 36 * q + j) := fun j j1 j2 => by
    unfold tuneV voidF voidK
    rw [if_neg (by omega), st1_n (by omega)]
  have gv4 : tuneV f q er (24 + 36 * q) = 0 := by
    unfold tuneV voidF voidK
    rw [if_pos (by omega)]
  have gp : prsA (tuneV f q er) (tuneV f q er 4) = prsA f (f 4) := by
    rw [gl 4 (by omega)]
    exact prsA_cong2 (gl 0 (by omega)) (gl 1 (by omega)) (gl 3 (by omega)) (fun r hr => gl _ (by omega)) h3.1
  have t1 : tuneV f q er (21 + 36 * q) = f (21 + 36 * q) := by
    have := gv1 1 (by omega) (by omega)
    rwa [show 20 + 36 * q + 1 = 21 + 36 * q by omega] at this
  have t2 : tuneV f q er (22 + 36 * q) = f (22 + 36 * q) := by
    have := gv1 2 (by omega) (by omega)
    rwa [show 20 + 36 * q + 2 = 22 + 36 * q by omega] at this
  have t3 : tuneV f q er (23 + 36 * q) = f (23 + 36 * q) := by
    have := gv1 3 (by omega) (by omega)
    rwa [show 20 + 36 * q + 3 = 23 + 36 * q by omega] at this
  have hh : ∀ j : Nat, j ≠ 23 + 36 * q → tuneF f q er j = tuneV f q er j := fun j hj => st1_n hj
  have h23 : tuneF f q er (23 + 36 * q) = goes (f (23 + 36 * q)) (prsA f (f 4)) er (f (21 + 36 * q)) := by
    unfold tuneF handG
    rw [st1_s, t3, gp, gv0, t1]
  refine h.mk (CK.blk a fun w hw => ⟨?_, u2_row (by omega)⟩) (a.u2 4 none (by omega) (by omega)) ?_ ?_ fun g hg => ?_
  · rw [u2_row (by omega), u2_row (by omega)]
  · obtain ⟨⟨b0, b1, b2⟩, ⟨b3, b4, b5⟩, b6, b7⟩ := b
    refine ⟨⟨?_, ?_, ?_⟩, ⟨?_, ?_, ?_⟩, fun r hr => ?_, fun g hg => ?_⟩
    · rw [u2_row (by omega), u2_row (by omega), hh _ (by omega), gl _ (by omega)]; exact b0
    · rw [u2_row (by omega), u2_row (by omega), hh _ (by omega), gl _ (by omega)]; exact b1
    · rw [u2_row (by omega), u2_row (by omega), hh _ (by omega), gl _ (by omega)]; exact b2
    · rw [u2_row (by omega), u2_row (by omega), hh _ (by omega), gl _ (by omega)]; exact b3
    · rw [u2_row (by omega), u2_row (by omega), hh _ (by omega), gl _ (by omega)]; exact b4
    · rw [u2_row (by omega), u2_row (by omega), hh _ (by omega), gl _ (by omega)]; exact b5
    · rw [hh _ (by omega), gl _ (by omega)] at hr
      rw [u2_row (by omega), u2_row (by omega), hh _ (by omega), gl _ (by omega)]; exact b6 r hr
    · rw [hh _ (by omega), gl _ (by omega)] at hg
      obtain ⟨w0, w1, w2, w3⟩ := b7 g hg
      by_cases e : g = q
      · subst e
        refine ⟨?_, ?_, ?_, ?_⟩
        · rw [u2_k (by omega), u2_s, hh _ (by omega), gv0]
        · rw [u2_k (by omega), u2_k (by omega), hh _ (by omega), t1]; exact w1
        · rw [u2_k (by omega), u2_k (by omega), hh _ (by omega), t2]; exact w2
        · rw [u2_s, h23]
      · rw [u2_row (by omega), u2_row (by omega), hh _ (by omega), hh _ (by omega), hh _ (by omega), hh _ (by omega), gl _ (by omega), gl _ (by omega), gl _ (by omega), gl _ (by omega)]
        exact ⟨w0, w1, w2, w3⟩
  · exact (c.h_tuneV q he).h_handG (by rw [gl 5 (by omega)]; exact hq)
  · rw [hh _ (by omega), gl _ (by omega)] at hg
    by_cases e : g = q
    · subst e
      left
      exact ⟨u2_s _ _ _ _, by rw [hh _ (by omega)]; exact gv4⟩
    · right
      refine ⟨by omega, by rw [u2_row (by omega)], ?_, fun j j1 j2 => ?_⟩
      · rw [hh _ (by omega), gl _ (by omega)]
      · rw [hh _ (by omega), gl _ (by omega)]
theorem TQ.cert {G : GG} {X z z' : Nat} {K N K' N' : Nat → Nat} {I I' : MI} {R R' : MR} {t b : Nat} {f : Nat → Int} (h : TQ G X z K N I R t f) {q : Int} (hP : ceP G t b f q z K N I R z' K' N' I' R') (hd : t + 10 ≤ b ∨ b + 5 ≤ t) (hX : b + 5 ≤ X ∧ t + 10 ≤ X) (hz : X ≤ z) (hq0 : q.toNat < 6) :
    TQ G X z' K' N' I' R' t (if (0 ≤ q ∧ q ≤ f 5 - 1) ∧ ¬ f 3 = 0 then certG f q.toNat else f) := by
  obtain ⟨⟨p1, p2⟩, p3, p4, p5, p6⟩ := hP
  obtain ⟨a, bb, c, d⟩ := id h
  have h3 := c.2.2.2.1
  have h5 := c.2.2.2.2.2.1
  have tz := (a.2.2.2.2 5 (by omega)).1.2.1
  have ck : CK X z K N I R z' K' N' I' R' := CK.lo p1 p2 fun w h1 h2 => ⟨p3 w h2 (by omega), funext fun j => p4 w j h2 (by omega) (by omega)⟩
  have hS : ShT G z' K' N' R' t := by
    have rr : ∀ w j : Nat, t ≤ w → w < t + 10 → j ≠ 4 → R' w j = R w j := fun w j h1 h2 hj => p4 w j (by omega) (by omega) (by omega)
    have rr2 : ∀ w j : Nat, t ≤ w → w < t + 4 → R' w j = R w j := fun w j h1 h2 => p4 w j (by omega) (by omega) (by omega)
    obtain ⟨a0, ⟨b0, b1, b2⟩, ⟨c1, c2, c3⟩, ⟨d1, d2, d3⟩, e⟩ := a
    refine ⟨zK_mono a0 p1 (p2 _ (by omega)).1, ⟨by rw [rr2 _ _ (by omega) (by omega)]; exact b0, by rw [rr2 _ _ (by omega) (by omega)]; exact b1, by rw [rr2 _ _ (by omega) (by omega)]; exact b2⟩, ⟨zK_mono c1 p1 (p2 _ (by omega)).1, zK_mono c2 p1 (p2 _ (by omega)).1, zK_mono c3 p1 (p2 _ (by omega)).1⟩, ⟨by rw [(p2 _ (by omega)).2]; exact d1, by rw [(p2 _ (by omega)).2]; exact d2, by rw [(p2 _ (by omega)).2]; exact d3⟩, fun i hi => ⟨zK_mono (e i hi).1 p1 (p2 _ (by omega)).1, by rw [rr2 _ _ (by omega) (by omega)]; exact (e i hi).2⟩⟩
  have hTN : TN I' t f := bb.keep (fun w h1 h2 => p3 w (by omega) (by omega)) h5.2
  have hR : ∀ g : Nat, g < 6 → g ≠ q.toNat → R' (t + 4 + g) 4 = R (t + 4 + g) 4 := fun g hg hne => p4 _ _ (by omega) (by omega) (by omega)
  by_cases hc : ceC f q
  · have hcc := hc
    obtain ⟨k1, k2, k3⟩ := hcc
    rw [if_pos ⟨k1, k2⟩]
    have eG : certG f q.toNat = certK f q.toNat 28 := if_pos k3
    have el : ∀ j : Nat, (j < 24 + 36 * q.toNat ∨ 56 + 36 * q.toNat ≤ j) → certG f q.toNat j = f j := fun j hj => by
      rw [eG]
      unfold certK certB
      rw [if_neg (by omega), st1_n (by omega), st1_n (by omega), st1_n (by omega), st1_n (by omega)]
    refine ⟨hS, hTN.cong h3.2 (fun j hj => el j (by omega)) (fun g j hj => el _ (by omega)), c.cert _, fun g hg => ?_⟩
    rw [el 5 (by omega)] at hg
    by_cases e : g = q.toNat
    · subst e
      obtain ⟨w, w0, w1, w2, w3, w4, w5, w6, w7, w8⟩ := p5 hc
      right
      refine ⟨w, w1, by omega, w2, w3, w4, by rw [el 3 (by omega)]; exact w5, ?_, ?_, ?_, fun k hk => ?_⟩
      · rw [eG]; unfold certK certB
        rw [if_neg (by omega), st1_n (by omega), st1_n (by omega), st1_n (by omega), st1_s]
      · rw [eG, w6]; unfold certK certB
        rw [if_neg (by omega), st1_n (by omega), st1_n (by omega), st1_s]
      · rw [eG, w7]; unfold certK certB
        rw [if_neg (by omega), st1_n (by omega), st1_s]
      · rw [el 3 (by omega)] at hk
        rw [eG, w8 k hk]; unfold certK
        rw [if_pos (by omega), show 28 + 36 * q.toNat + k - (28 + 36 * q.toNat) = k by omega, if_pos hk]
    · rw [hR g (by omega) e]
      exact ((d g hg).keep ck).cong (el 3 (by omega)) (fun j j1 j2 => el _ (by omega)) h3.1
  · have e1 : (if (0 ≤ q ∧ q ≤ f 5 - 1) ∧ ¬ f 3 = 0 then certG f q.toNat else f) = f := by
      split
      · rename_i w
        exact if_neg (fun k3 => hc ⟨w.1, w.2, k3⟩)
      · rfl
    rw [e1]
    refine ⟨hS, hTN, c, fun g hg => ?_⟩
    by_cases e : g = q.toNat
    · subst e
      rw [p6 hc]
      exact (d _ hg).keep ck
    · rw [hR g (by omega) e]
      exact (d g hg).keep ck
