theorem zK_mono {G : GG} {z z' : Nat} {K K' : Nat → Nat} {a c : Nat} (h : zK G z K a c) (hz : z ≤ z') (hk : K' a = K a) : zK G z' K' a c := ⟨h.1, Nat.lt_of_lt_of_le h.2.1 hz, hk.trans h.2.2⟩
theorem ShH.mono {G : GG} {z z' : Nat} {K N K' N' : Nat → Nat} {R R' : MR} {b : Nat} (h : ShH G z K N R b) (hz : z ≤ z') (hk : ∀ a : Nat, b ≤ a → a < b + 72 → K' a = K a ∧ N' a = N a ∧ R' a = R a) : ShH G z' K' N' R' b := by
  obtain ⟨a, c, d, e, g⟩ := h
  have k0 := hk b (by omega) (by omega)
  have k1 := hk (b + 1) (by omega) (by omega)
  exact ⟨zK_mono a hz k0.1, by rw [k0.2.2]; exact c, zK_mono d hz k1.1, by rw [k1.2.1]; exact e, fun i hi => ⟨(g i hi).1.mono hz fun q h1 h2 => hk q (by omega) (by omega), by rw [k1.2.2]; exact (g i hi).2⟩⟩
theorem ShX.mono {G : GG} {z z' : Nat} {K N K' N' : Nat → Nat} {R R' : MR} {b : Nat} (h : ShX G z K N R b) (hz : z ≤ z') (hk : ∀ a : Nat, b ≤ a → a < b + 5 → K' a = K a ∧ N' a = N a) (hr : R' b = R b) : ShX G z' K' N' R' b := by
  obtain ⟨xo, ⟨x0, x4, x5, x6⟩, ⟨y1, y2, y3, y4⟩, w1, w3, w4⟩ := h
  refine ⟨zK_mono xo hz (hk b (by omega) (by omega)).1, ⟨?_, ?_, ?_, ?_⟩, ⟨zK_mono y1 hz (hk _ (by omega) (by omega)).1, zK_mono y2 hz (hk _ (by omega) (by omega)).1, zK_mono y3 hz (hk _ (by omega) (by omega)).1, zK_mono y4 hz (hk _ (by omega) (by omega)).1⟩, ?_, ?_, ?_⟩
  · rw [hr]; exact x0
  · rw [hr]; exact x4
  · rw [hr]; exact x5
  · rw [hr]; exact x6
  · rw [(hk _ (by omega) (by omega)).2]; exact w1
  · rw [(hk _ (by omega) (by omega)).2]; exact w3
  · rw [(hk _ (by omega) (by omega)).2]; exact w4
theorem ShP.mono {G : GG} {z z' : Nat} {K N K' N' : Nat → Nat} {R R' : MR} {b : Nat} (h : ShP G z K N R b) (hz : z ≤ z') (hk : ∀ a : Nat, b ≤ a → a < b + 3 → K' a = K a ∧ N' a = N a) (hr : R' b = R b) : ShP G z' K' N' R' b := by
  obtain ⟨ho, ⟨r0, r3⟩, ⟨k1, k2⟩, n1, n2⟩ := h
  refine ⟨zK_mono ho hz (hk b (by omega) (by omega)).1, ⟨?_, ?_⟩, ⟨zK_mono k1 hz (hk _ (by omega) (by omega)).1, zK_mono k2 hz (hk _ (by omega) (by omega)).1⟩, ?_, ?_⟩
  · rw [hr]; exact r0
  · rw [hr]; exact r3
  · rw [(hk _ (by omega) (by omega)).2]; exact n1
  · rw [(hk _ (by omega) (by omega)).2]; exact n2
theorem ShM.mono {G : GG} {z z' : Nat} {K N K' N' : Nat → Nat} {R R' : MR} {o : Nat} (h : ShM G z K N R o) (hz : z ≤ z') (hk : ∀ a : Nat, o ≤ a → a < o + 8 → K' a = K a ∧ N' a = N a) (hr : R' o = R o) : ShM G z' K' N' R' o := by
  obtain ⟨ho, hrr, ⟨k1, k2, k3, k4, k5, k6, k7⟩, n1, n2, n3, n4, n5, n6, n7⟩ := h
  have q : ∀ j : Nat, j < 8 → K' (o + j) = K (o + j) ∧ N' (o + j) = N (o + j) := fun j hj => hk _ (by omega) (by omega)
  refine ⟨zK_mono ho hz (q 0 (by omega)).1, by rw [hr]; exact hrr, ⟨zK_mono k1 hz (q 1 (by omega)).1, zK_mono k2 hz (q 2 (by omega)).1, zK_mono k3 hz (q 3 (by omega)).1, zK_mono k4 hz (q 4 (by omega)).1, zK_mono k5 hz (q 5 (by omega)).1, zK_mono k6 hz (q 6 (by omega)).1, zK_mono k7 hz (q 7 (by omega)).1⟩, ?_⟩
  rw [(q 1 (by omega)).2, (q 2 (by omega)).2, (q 3 (by omega)).2, (q 4 (by omega)).2, (q 5 (by omega)).2, (q 6 (by omega)).2, (q 7 (by omega)).2]
  exact ⟨n1, n2, n3, n4, n5, n6, n7⟩
def Iv2 (G : GG) (b i : Nat) (K N : Nat → Nat) (I : MI) (R : MR) (K2 N2 : Nat → Nat) (I2 : MI) (R2 : MR) : Prop :=
  (∀ a : Nat, a < b + 1 → K2 a = K a ∧ N2 a = N a ∧ I2 a = I a ∧ (a ≠ b → R2 a = R a)) ∧ R2 b 0 = some (b + 1) ∧ K2 (b + 1) = 11 ∧ N2 (b + 1) = 7 ∧ ∀ q : Nat, q < i → ShT G (b + 2 + 10 * i) K2 N2 R2 (b + 2 + 10 * q) ∧ R2 (b + 1) q = some (b + 2 + 10 * q)
theorem Iv2.s {G : GG} {b i : Nat} {K N : Nat → Nat} {I : MI} {R : MR} {K2 N2 : Nat → Nat} {I2 : MI} {R2 : MR} {z4 : Nat} {K4 N4 : Nat → Nat} {I4 : MI} {R4 : MR} (h : Iv2 G b i K N I R K2 N2 I2 R2) (h4 : P4 G (b + 2 + 10 * i) (va_up K2 (b + 2 + 10 * i) 4) N2 (va_up I2 (b + 2 + 10 * i) (fun _ => 0)) (va_up R2 (b + 2 + 10 * i) (fun _ => none)) z4 K4 N4 I4 R4) : Iv2 G b (i + 1) K N I R K4 N4 I4 (u2 R4 (b + 1) i (some (b + 2 + 10 * i))) := by
  obtain ⟨a, b0, c0, d0, e0⟩ := h
  obtain ⟨g1, g2, g3, g4⟩ := h4
  subst g1
  have old : ∀ q : Nat, q < b + 2 + 10 * i → K4 q = K2 q ∧ N4 q = N2 q ∧ I4 q = I2 q ∧ R4 q = R2 q := fun q hq => by
    obtain ⟨x1, x2, x3, x4⟩ := g2 q (by omega)
    have x5 := x4 (by omega)
    rw [va_up_n (by omega)] at x1 x3 x5
    exact ⟨x1, x2, x3, x5⟩
  refine ⟨fun q hq => ?_, ?_, ?_, ?_, fun q hq => ?_⟩
  · obtain ⟨x1, x2, x3, x4⟩ := old q (by omega)
    obtain ⟨y1, y2, y3, y4⟩ := a q hq
    exact ⟨x1.trans y1, x2.trans y2, x3.trans y3, fun hne => by rw [u2_row (by omega), x4]; exact y4 hne⟩
  · rw [u2_row (by omega), (old b (by omega)).2.2.2]; exact b0
  · rw [(old (b + 1) (by omega)).1]; exact c0
  · rw [(old (b + 1) (by omega)).2.1]; exact d0
  · by_cases hqi : q = i
    · subst hqi
      refine ⟨?_, u2_s _ _ _ _⟩
      exact g3.mono (by omega) fun a h1 h2 => ⟨rfl, rfl, u2_row (by omega)⟩
    · obtain ⟨y1, y2⟩ := e0 q (by omega)
      refine ⟨y1.mono (by omega) fun a h1 h2 => ?_, ?_⟩
      · obtain ⟨x1, x2, x3, x4⟩ := old a (by omega)
        exact ⟨x1, x2, by rw [u2_row (by omega), x4]⟩
      · rw [u2_k hqi, (old (b + 1) (by omega)).2.2.2]; exact y2
def P2 (G : GG) (b : Nat) (K N : Nat → Nat) (I : MI) (R : MR) (z' : Nat) (K' N' : Nat → Nat) (I' : MI) (R' : MR) : Prop :=
  z' = b + 72 ∧ (∀ a : Nat, a < b + 1 → K' a = K a ∧ N' a = N a ∧ I' a = I a ∧ (a ≠ b → R' a = R a)) ∧ ShH G z' K' N' R' b
theorem Iv2.sh {G : GG} {b : Nat} {K N : Nat → Nat} {I : MI} {R : MR} {K2 N2 : Nat → Nat} {I2 : MI} {R2 : MR} (h : Iv2 G b 7 K N I R K2 N2 I2 R2) (hk : zK G (b + 1) K b 2) : P2 G b K N I R (b + 2 + 10 * 7) K2 N2 I2 R2 := by
  obtain ⟨a, b0, c0, d0, e0⟩ := h
  have h0 := hk.1
  exact ⟨by omega, a, ⟨h0, by omega, by rw [(a b (by omega)).1]; exact hk.2.2⟩, b0, ⟨by omega, by omega, c0⟩, d0, e0⟩
set_option maxHeartbeats 4000000 in
set_option maxRecDepth 100000 in
theorem mX2_init (l : Launch) (G : GG) {z : Nat} {K N : Nat → Nat} {I : MI} {R : MR} {b : Nat} (hz : z = b + 1) (hk : zK G z K b 2) : Con l G yX2_init (Cond.code yX2_init cX2_init 2 none :: wsL_law) ⟨3, 71, 420, 61⟩ 71 420 [.ref b] z K N I R (fun r z' K' N' I' R' => r = none ∧ P2 G b K N I R z' K' N' I' R') := by
  refine Con.of (own := RX2) (cc := cX2_init) (maxL := 2) (ret := none) (by decide +kernel) rfl rfl (Nat.le_of_ble_eq_true rfl) (by decide) rfl ?_
  intro p e9 s mt args below meth c Q hin hQ C
  subst hz
  have h0 := hk.1
  have hloop : ∀ (q : Nat) (i : Nat) (K2 N2 : Nat → Nat) (I2 : MI) (R2 : MR), i ≤ 7 → 7 - i < q → Iv2 G b i K N I R K2 N2 I2 R2 → Zq p l e9 ⟨3, 71, 420, 61⟩ s mt args below meth c G 2 Q (1 + 10 * i) (7 + 59 * i) (b + 2 + 10 * i) K2 N2 I2 R2 15 [(0, .ref b), (1, .int (zI (i : Int)))] [] := by
    intro q
    induction q with
    | zero => intro i K2 N2 I2 R2 h1 h2; exact absurd h2 (by omega)
    | succ q ih =>
      intro i K2 N2 I2 R2 h1 h2 hI
      have hI9 := hI
      obtain ⟨i1, i2, i3, i4, i5⟩ := hI9
      have hkt : zK G (b + 2 + 10 * i) K2 b 2 := ⟨hk.1, by omega, by rw [(i1 b (by omega)).1]; exact hk.2.2⟩
      have hk3 : zK G (b + 2 + 10 * i) K2 (b + 1) 11 := ⟨by omega, by omega, i3⟩
      refine z_iload_n C dX2_init_15 rfl ?_
      refine z_aload_n C dX2_init_16 rfl ?_
      refine z_gR C (ci := 2) (k := 0) rfl (by decide) rfl (by decide) wl_2 wq_3_7 (by decide) dX2_init_17 (by assumption) (by assumption) ?_
      refine z_aalen C dX2_init_20 hk3 ?_
      rw [i4]
      refine z_icmp_ge C (tgt := 43) dX2_init_21 (by decide) (by first | omega | exact b2i_r) (by first | omega | exact b2i_r) (fun h21 => ?_) (fun h21 => ?_)
      · refine z_widen (k := 71) (n := 420) (by omega) (by omega) ?_
        obtain rfl : i = 7 := by omega
        exact z_vret2 C hQ rfl dX2_init_43 ⟨rfl, hI.sh hk⟩
      · refine z_aload_n C dX2_init_24 rfl ?_
        refine z_gR C (ci := 2) (k := 0) rfl (by decide) rfl (by decide) wl_2 wq_3_7 (by decide) dX2_init_25 (by assumption) (by assumption) ?_
        refine z_iload_n C dX2_init_28 rfl ?_
        refine z_new C 4 (C0 := RX4) (T0 := TX4) (N0 := 6) rfl (by decide) rfl tyX4_ok dfv_4 wl_4 wq_3_6 wq_1_14 wq_1_15 dX2_init_29 (by show 1 + 10 * i + 1 ≤ 71; omega) (by show 7 + 59 * i + 6 ≤ 420; omega) ?_
        refine z_dup C dX2_init_32 rfl ?_
        refine z_callI C (mX4_init l G (t := b + 2 + 10 * i) rfl (zK_new 4 (by omega))) (cwI 0 C.2.2.2.2.1 gn_X4_init rfl rfl rfl (C.2.2.2.2.1 _ wq_1_15) (C.2.2.2.2.1 _ wq_3_8) (C.2.2.2.2.1 _ wq_2_7) rfl hs_X4_init ⟨Nat.le_of_ble_eq_true rfl, Nat.le_of_ble_eq_true rfl⟩) rfl rfl (Nat.le_of_ble_eq_true rfl) dX2_init_33 ⟨by show 1 + 10 * i + 1 + 9 ≤ 71; omega, by show 7 + 59 * i + 6 + 53 ≤ 420; omega⟩ ?_
        intro r9 z9 K9 N9 I9 R9 ⟨e1, e2⟩
        subst e1
        have hI2 := hI.s e2
        obtain ⟨g1, g2, g3, g4⟩ := e2
        obtain rfl : z9 = b + 2 + 10 * (i + 1) := by omega
        have hk9 : zK G (b + 2 + 10 * (i + 1)) K9 (b + 1) 11 := ⟨by omega, by omega, hI2.2.2.1⟩
        have hn9 : N9 (b + 1) = 7 := hI2.2.2.2.1
        refine z_conv (st' := [.ref (b + 2 + 10 * i), .int (zI (i : Int)), .ref (b + 1)]) rfl rfl rfl rfl ?_
        refine z_aast C 11 4 (Or.inr ⟨rfl, rfl⟩) (by decide) rfl dX2_init_36 hk9 g3.1 (by rw [hn9]; omega) (by omega) ?_
        refine z_iinc C dX2_init_37 rfl (by decide) rfl ?_
        refine z_goto C (tgt := 15) dX2_init_40 (by decide) ?_
        rw [show (i : Int) + 1 = ((i + 1 : Nat) : Int) by omega]
        exact z_widen (by omega) (by omega) (ih (i + 1) _ _ _ _ (by omega) (by omega) hI2)
  refine z_aload_n C dX2_init_0 rfl ?_
  refine z_objInit C wq_3_5 wq_1_11 wq_1_12 dX2_init_1 (Nat.le_of_ble_eq_true rfl) (Nat.le_of_ble_eq_true rfl) ?_
  refine z_aload_n C dX2_init_4 rfl ?_
  refine z_bipush C dX2_init_5 (by decide) ?_
  refine z_anew C 11 (Or.inr ⟨rfl, rfl⟩) dX2_init_7 wq_3_6 (by omega) (Nat.le_of_ble_eq_true rfl) (Nat.le_of_ble_eq_true rfl) ?_
  have q4 := zK_up 11 hk
  rw [show (7 : Int).toNat = 7 from rfl]
  refine z_pR (r := some _) C (ci := 2) (k := 0) rfl (by decide) rfl (by decide) tyX2_ok nmX2 wl_2 wq_3_7 (by decide) (fun r => by cases r <;> exact ⟨rfl, rfl⟩) (Or.inr ⟨rfl, hin rfl, rfl⟩) dX2_init_10 (by assumption) ?_
  refine z_iconst C dX2_init_13 ?_
  refine z_istore_n C dX2_init_14 (by decide) rfl ?_
  refine hloop 8 0 _ _ _ _ (by omega) (by omega) ⟨fun a ha => ⟨?_, ?_, ?_, fun hne => ?_⟩, ?_, ?_, ?_, fun q hq => absurd hq (by omega)⟩
  · exact (by simp only [va_up, u2]; (repeat first | rw [if_neg (by omega)] | rw [if_pos (by omega)] | simp only [u2]); first | done | rfl | assumption)
  · exact (by simp only [va_up, u2]; (repeat first | rw [if_neg (by omega)] | rw [if_pos (by omega)] | simp only [u2]); first | done | rfl | assumption)
  · exact (by simp only [va_up, u2]; (repeat first | rw [if_neg (by omega)] | rw [if_pos (by omega)] | simp only [u2]); first | done | rfl | assumption)
  · rw [u2_row hne, va_up_n (by omega)]
  · exact (by simp only [va_up, u2]; (repeat first | rw [if_neg (by omega)] | rw [if_pos (by omega)] | simp only [u2]); first | done | rfl | assumption)
  · exact (by simp only [va_up, u2]; (repeat first | rw [if_neg (by omega)] | rw [if_pos (by omega)] | simp only [u2]); first | done | rfl | assumption)
  · exact (by simp only [va_up, u2]; (repeat first | rw [if_neg (by omega)] | rw [if_pos (by omega)] | simp only [u2]); first | done | rfl | assumption)

set_option maxHeartbeats 4000000 in
set_option maxRecDepth 100000 in
theorem mX5_init (l : Launch) (G : GG) {z : Nat} {K N : Nat → Nat} {I : MI} {R : MR} {b : Nat} (hz : z = b + 1) (hk : zK G z K b 5) : Con l G yX5_init (Cond.code yX5_init cX5_init 1 none :: wsL_law) ⟨2, 4, 62, 40⟩ 4 62 [.ref b] z K N I R (fun r z' K' N' I' R' => r = none ∧ z' = b + 5 ∧ (∀ a : Nat, a < b + 1 → K' a = K a ∧ N' a = N a ∧ I' a = I a ∧ (a ≠ b → R' a = R a)) ∧ ShX G z' K' N' R' b) := by
  refine Con.of (own := RX5) (cc := cX5_init) (maxL := 1) (ret := none) (by decide +kernel) rfl rfl (Nat.le_of_ble_eq_true rfl) (by decide) rfl ?_
  intro p e9 s mt args below meth c Q hin hQ C
  subst hz
  have h0 := hk.1
  have hk2 := hk.2.2
  refine z_aload_n C dX5_init_0 rfl ?_
  refine z_objInit C wq_3_11 wq_1_11 wq_1_12 dX5_init_1 (Nat.le_of_ble_eq_true rfl) (Nat.le_of_ble_eq_true rfl) ?_
  refine z_aload_n C dX5_init_4 rfl ?_
  refine z_bipush C dX5_init_5 (by decide) ?_
  refine z_newa C dX5_init_7 wq_2_17 (by omega) (Nat.le_of_ble_eq_true rfl) (Nat.le_of_ble_eq_true rfl) ?_
  have q1 := zK_up 9 hk
  rw [show (28 : Int).toNat = 28 from rfl]
  refine z_pR (r := some _) C (ci := 5) (k := 0) rfl (by decide) rfl (by decide) tyX5_ok nmX5 wl_5 wq_3_12 (by decide) (fun r => by cases r <;> exact ⟨rfl, rfl⟩) (Or.inr ⟨rfl, hin rfl, rfl⟩) dX5_init_9 (by assumption) ?_
  refine z_aload_n C dX5_init_12 rfl ?_
  refine z_new C 1 (C0 := RX1) (T0 := TX1) (N0 := 5) rfl (by decide) rfl tyX1_ok dfv_1 wl_1 wq_3_13 wq_2_21 wq_2_22 dX5_init_13 (Nat.le_of_ble_eq_true rfl) (Nat.le_of_ble_eq_true rfl) ?_
  have q2 := zK_up 1 q1
  refine z_dup C dX5_init_16 rfl ?_
  refine z_callINd C (host := RX6) (mX1_init l G) ⟨va_cnB 0 C.2.2.2.2.1 gn_X1_init rfl rfl rfl (znw C.2.2.2.2.2.2.2.1 7 rfl) (C.2.2.2.2.1 _ wq_2_22) hs_X1_init ⟨Nat.le_of_ble_eq_true rfl, Nat.le_of_ble_eq_true rfl⟩, rfl, C.2.2.2.2.1 _ wq_2_23⟩ rfl rfl (Nat.le_of_ble_eq_true rfl) dX5_init_17 ⟨(Nat.le_of_ble_eq_true rfl), (Nat.le_of_ble_eq_true rfl)⟩ ?_
  refine z_pR (r := some _) C (ci := 5) (k := 4) rfl (by decide) rfl (by decide) tyX5_ok nmX5 wl_5 wq_3_14 (by decide) (fun r => by cases r <;> exact ⟨rfl, rfl⟩) (Or.inr ⟨rfl, hin rfl, rfl⟩) dX5_init_20 (by assumption) ?_
  refine z_aload_n C dX5_init_23 rfl ?_
  refine z_bipush C dX5_init_24 (by decide) ?_
  refine z_newa C dX5_init_26 wq_2_17 (by omega) (Nat.le_of_ble_eq_true rfl) (Nat.le_of_ble_eq_true rfl) ?_
  have q3 := zK_up 9 q2
  rw [show (14 : Int).toNat = 14 from rfl]
  refine z_pR (r := some _) C (ci := 5) (k := 5) rfl (by decide) rfl (by decide) tyX5_ok nmX5 wl_5 wq_3_15 (by decide) (fun r => by cases r <;> exact ⟨rfl, rfl⟩) (Or.inr ⟨rfl, hin rfl, rfl⟩) dX5_init_28 (by assumption) ?_
  refine z_aload_n C dX5_init_31 rfl ?_
  refine z_bipush C dX5_init_32 (by decide) ?_
  refine z_newa C dX5_init_34 wq_2_17 (by omega) (Nat.le_of_ble_eq_true rfl) (Nat.le_of_ble_eq_true rfl) ?_
  have q4 := zK_up 9 q3
  rw [show (15 : Int).toNat = 15 from rfl]
  refine z_pR (r := some _) C (ci := 5) (k := 6) rfl (by decide) rfl (by decide) tyX5_ok nmX5 wl_5 wq_3_16 (by decide) (fun r => by cases r <;> exact ⟨rfl, rfl⟩) (Or.inr ⟨rfl, hin rfl, rfl⟩) dX5_init_36 (by assumption) ?_
  exact z_vret2 C hQ rfl dX5_init_39 ⟨rfl, rfl, fun a ha => ⟨(by simp only [va_up, u2]; (repeat first | rw [if_neg (by omega)] | rw [if_pos (by omega)] | simp only [u2]); first | done | rfl | assumption), (by simp only [va_up, u2]; (repeat first | rw [if_neg (by omega)] | rw [if_pos (by omega)] | simp only [u2]); first | done | rfl | assumption), (by simp only [va_up, u2]; (repeat first | rw [if_neg (by omega)] | rw [if_pos (by omega)] | simp only [u2]); first | done | rfl | assumption), fun hne => by rw [u2_row hne, u2_row hne, u2_row hne, va_up_n (by omega), u2_row hne]⟩, ⟨h0, by omega, (by simp only [va_up, u2]; (repeat first | rw [if_neg (by omega)] | rw [if_pos (by omega)] | simp only [u2]); first | done | rfl | assumption)⟩, ⟨(by simp only [va_up, u2]; (repeat first | rw [if_neg (by omega)] | rw [if_pos (by omega)] | simp only [u2]); first | done | rfl | assumption), (by simp only [va_up, u2]; (repeat first | rw [if_neg (by omega)] | rw [if_pos (by omega)] | simp only [u2]); first | done | rfl | assumption), (by simp only [va_up, u2]; (repeat first | rw [if_neg (by omega)] | rw [if_pos (by omega)] | simp only [u2]); first | done | rfl | assumption), (by simp only [va_up, u2]; (repeat first | rw [if_neg (by omega)] | rw [if_pos (by omega)] | simp only [u2]); first | done | rfl | assumption)⟩, ⟨⟨by omega, by omega, (by simp only [va_up, u2]; (repeat first | rw [if_neg (by omega)] | rw [if_pos (by omega)] | simp only [u2]); first | done | rfl | assumption)⟩, ⟨by omega, by omega, (by simp only [va_up, u2]; (repeat first | rw [if_neg (by omega)] | rw [if_pos (by omega)] | simp only [u2]); first | done | rfl | assumption)⟩, ⟨by omega, by omega, (by simp only [va_up, u2]; (repeat first | rw [if_neg (by omega)] | rw [if_pos (by omega)] | simp only [u2]); first | done | rfl | assumption)⟩, ⟨by omega, by omega, (by simp only [va_up, u2]; (repeat first | rw [if_neg (by omega)] | rw [if_pos (by omega)] | simp only [u2]); first | done | rfl | assumption)⟩⟩, (by simp only [va_up, u2]; (repeat first | rw [if_neg (by omega)] | rw [if_pos (by omega)] | simp only [u2]); first | done | rfl | assumption), (by simp only [va_up, u2]; (repeat first | rw [if_neg (by omega)] | rw [if_pos (by omega)] | simp only [u2]); first | done | rfl | assumption), (by simp only [va_up, u2]; (repeat first | rw [if_neg (by omega)] | rw [if_pos (by omega)] | simp only [u2]); first | done | rfl | assumption)⟩

set_option maxHeartbeats 4000000 in
set_option maxRecDepth 100000 in
theorem mX3_init (l : Launch) (G : GG) {z : Nat} {K N : Nat → Nat} {I : MI} {R : MR} {b : Nat} (hz : z = b + 1) (hk : zK G z K b 3) : Con l G yX3_init (Cond.code yX3_init cX3_init 1 none :: wsL_law) ⟨1, 2, 83, 20⟩ 2 83 [.ref b] z K N I R (fun r z' K' N' I' R' => r = none ∧ z' = b + 3 ∧ (∀ a : Nat, a < b + 1 → K' a = K a ∧ N' a = N a ∧ I' a = I a ∧ (a ≠ b → R' a = R a)) ∧ ShP G z' K' N' R' b ∧ I' (b + 2) = fun _ => 0) := by
  refine Con.of (own := RX3) (cc := cX3_init) (maxL := 1) (ret := none) (by decide +kernel) rfl rfl (Nat.le_of_ble_eq_true rfl) (by decide) rfl ?_
  intro p e9 s mt args below meth c Q hin hQ C
  subst hz
  have h0 := hk.1
  have hk2 := hk.2.2
  refine z_aload_n C dX3_init_0 rfl ?_
  refine z_objInit C wq_3_19 wq_1_11 wq_1_12 dX3_init_1 (Nat.le_of_ble_eq_true rfl) (Nat.le_of_ble_eq_true rfl) ?_
  refine z_aload_n C dX3_init_4 rfl ?_
  refine z_iconst C dX3_init_5 ?_
  refine z_newa C dX3_init_6 wq_2_17 (by omega) (Nat.le_of_ble_eq_true rfl) (Nat.le_of_ble_eq_true rfl) ?_
  have q1 := zK_up 9 hk
  rw [show (3 : Int).toNat = 3 from rfl]
  refine z_pR (r := some _) C (ci := 3) (k := 0) rfl (by decide) rfl (by decide) tyX3_ok nmX3 wl_3 wq_3_20 (by decide) (fun r => by cases r <;> exact ⟨rfl, rfl⟩) (Or.inr ⟨rfl, hin rfl, rfl⟩) dX3_init_8 (by assumption) ?_
  refine z_aload_n C dX3_init_11 rfl ?_
  refine z_bipush C dX3_init_12 (by decide) ?_
  refine z_newc C dX3_init_14 wq_3_21 (by omega) (Nat.le_of_ble_eq_true rfl) (Nat.le_of_ble_eq_true rfl) ?_
  have q2 := zK_up 8 q1
  rw [show (80 : Int).toNat = 80 from rfl]
  refine z_pR (r := some _) C (ci := 3) (k := 3) rfl (by decide) rfl (by decide) tyX3_ok nmX3 wl_3 wq_3_22 (by decide) (fun r => by cases r <;> exact ⟨rfl, rfl⟩) (Or.inr ⟨rfl, hin rfl, rfl⟩) dX3_init_16 (by assumption) ?_
  exact z_vret2 C hQ rfl dX3_init_19 ⟨rfl, rfl, fun a ha => ⟨(by simp only [va_up, u2]; (repeat first | rw [if_neg (by omega)] | rw [if_pos (by omega)] | simp only [u2]); first | done | rfl | assumption), (by simp only [va_up, u2]; (repeat first | rw [if_neg (by omega)] | rw [if_pos (by omega)] | simp only [u2]); first | done | rfl | assumption), (by simp only [va_up, u2]; (repeat first | rw [if_neg (by omega)] | rw [if_pos (by omega)] | simp only [u2]); first | done | rfl | assumption), fun hne => by rw [u2_row hne, u2_row hne]⟩, ⟨⟨h0, by omega, (by simp only [va_up, u2]; (repeat first | rw [if_neg (by omega)] | rw [if_pos (by omega)] | simp only [u2]); first | done | rfl | assumption)⟩, ⟨(by simp only [va_up, u2]; (repeat first | rw [if_neg (by omega)] | rw [if_pos (by omega)] | simp only [u2]); first | done | rfl | assumption), (by simp only [va_up, u2]; (repeat first | rw [if_neg (by omega)] | rw [if_pos (by omega)] | simp only [u2]); first | done | rfl | assumption)⟩, ⟨⟨by omega, by omega, (by simp only [va_up, u2]; (repeat first | rw [if_neg (by omega)] | rw [if_pos (by omega)] | simp only [u2]); first | done | rfl | assumption)⟩, ⟨by omega, by omega, (by simp only [va_up, u2]; (repeat first | rw [if_neg (by omega)] | rw [if_pos (by omega)] | simp only [u2]); first | done | rfl | assumption)⟩⟩, (by simp only [va_up, u2]; (repeat first | rw [if_neg (by omega)] | rw [if_pos (by omega)] | simp only [u2]); first | done | rfl | assumption), (by simp only [va_up, u2]; (repeat first | rw [if_neg (by omega)] | rw [if_pos (by omega)] | simp only [u2]); first | done | rfl | assumption)⟩, (by simp only [va_up, u2]; (repeat first | rw [if_neg (by omega)] | rw [if_pos (by omega)] | simp only [u2]); first | done | rfl | assumption)⟩

