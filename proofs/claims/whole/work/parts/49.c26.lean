def P6 (G : GG) (x z' : Nat) (K' N' : Nat → Nat) (I' : MI) (R' : MR) : Prop :=
  z' = x + 92 ∧ (zK G z' K' x 6 ∧ R' x 0 = some (x + 1) ∧ R' x 1 = some (x + 11) ∧ R' x 2 = some (x + 83) ∧ R' x 3 = some (x + 84) ∧ R' x 4 = some (x + 89)) ∧
  (ShT G z' K' N' R' (x + 1) ∧ ShH G z' K' N' R' (x + 11) ∧ (zK G z' K' (x + 83) 11 ∧ N' (x + 83) = 2) ∧ ShX G z' K' N' R' (x + 84) ∧ ShP G z' K' N' R' (x + 89)) ∧
  (R' (x + 83) 0 = none ∧ R' (x + 83) 1 = none) ∧ (I' (x + 2) = zF0 ∧ (I' (x + 1) = fun _ => 0) ∧ (I' (x + 11) = fun _ => 0) ∧ (I' (x + 89) = fun _ => 0) ∧ I' (x + 91) = fun _ => 0)
def P7 (G : GG) (o : Nat) (K N : Nat → Nat) (I : MI) (R : MR) (z' : Nat) (K' N' : Nat → Nat) (I' : MI) (R' : MR) : Prop :=
  z' = o + 8 ∧ (∀ a : Nat, a < o + 1 → K' a = K a ∧ N' a = N a ∧ I' a = I a ∧ (a ≠ o → R' a = R a)) ∧ ShM G z' K' N' R' o ∧ (I' (o + 1) = fun j => if j < 3 then zF0 j else 0) ∧ ∀ j : Nat, 2 ≤ j → j < 8 → I' (o + j) = fun _ => 0
def Iv7 (G : GG) (o : Nat) (K N : Nat → Nat) (I : MI) (R : MR) (K' N' : Nat → Nat) (I' : MI) (R' : MR) : Prop :=
  (∀ a : Nat, a < o + 1 → K' a = K a ∧ N' a = N a ∧ I' a = I a ∧ (a ≠ o → R' a = R a)) ∧ ShM G (o + 8) K' N' R' o ∧ ∀ j : Nat, 1 ≤ j → j < 8 → I' (o + j) = fun _ => 0
theorem Iv7.p {G : GG} {o : Nat} {K N : Nat → Nat} {I : MI} {R : MR} {K' N' : Nat → Nat} {I' : MI} {R' : MR} (h : Iv7 G o K N I R K' N' I' R') : P7 G o K N I R (o + 8) K' N' (u2 (u2 (u2 I' (o + 1) 0 4) (o + 1) 1 10) (o + 1) 2 50) R' := by
  refine ⟨rfl, fun a ha => ⟨(h.1 a ha).1, (h.1 a ha).2.1, ?_, (h.1 a ha).2.2.2⟩, h.2.1, ?_, fun j j1 j2 => ?_⟩
  · rw [u2_row (by omega), u2_row (by omega), u2_row (by omega)]; exact (h.1 a ha).2.2.1
  · funext j
    have h1 := h.2.2 1 (by omega) (by omega)
    by_cases e2 : j = 2
    · subst e2; rw [u2_s]; rfl
    · rw [u2_k e2]
      by_cases e1 : j = 1
      · subst e1; rw [u2_s]; rfl
      · rw [u2_k e1]
        by_cases e0 : j = 0
        · subst e0; rw [u2_s]; rfl
        · rw [u2_k e0, h1, if_neg (by omega)]
  · rw [u2_row (by omega), u2_row (by omega), u2_row (by omega)]; exact h.2.2 j (by omega) j2
set_option maxHeartbeats 4000000 in
set_option maxRecDepth 100000 in
theorem mX6_init (l : Launch) (G : GG) {z : Nat} {K N : Nat → Nat} {I : MI} {R : MR} {x : Nat} (hz : z = x + 1) (hk : zK G z K x 6) : Con l G yX6_init (Cond.code yX6_init cX6_init 1 none :: wsL_law) ⟨4, 91, 641, 82⟩ 91 641 [.ref x] z K N I R (fun r z' K' N' I' R' => r = none ∧ P6 G x z' K' N' I' R') := by
  refine Con.of (own := RX6) (cc := cX6_init) (maxL := 1) (ret := none) (by decide +kernel) rfl rfl (Nat.le_of_ble_eq_true rfl) (by decide) rfl ?_
  intro p e9 s mt args below meth c Q hin hQ C
  subst hz
  have h0 := hk.1
  refine z_aload_n C dX6_init_0 rfl ?_
  refine z_objInit C wq_1_10 wq_1_11 wq_1_12 dX6_init_1 (Nat.le_of_ble_eq_true rfl) (Nat.le_of_ble_eq_true rfl) ?_
  refine z_aload_n C dX6_init_4 rfl ?_
  refine z_new C 4 (C0 := RX4) (T0 := TX4) (N0 := 6) rfl (by decide) rfl tyX4_ok dfv_4 wl_4 wq_1_13 wq_1_14 wq_1_15 dX6_init_5 (Nat.le_of_ble_eq_true rfl) (Nat.le_of_ble_eq_true rfl) ?_
  refine z_dup C dX6_init_8 rfl ?_
  refine z_callI C (mX4_init l G (t := x + 1) rfl (zK_new 4 (by omega))) (cwI 0 C.2.2.2.2.1 gn_X4_init rfl rfl rfl (C.2.2.2.2.1 _ wq_1_15) (C.2.2.2.2.1 _ wq_2_6) (C.2.2.2.2.1 _ wq_2_7) rfl hs_X4_init ⟨Nat.le_of_ble_eq_true rfl, Nat.le_of_ble_eq_true rfl⟩) rfl rfl (Nat.le_of_ble_eq_true rfl) dX6_init_9 ⟨(Nat.le_of_ble_eq_true rfl), (Nat.le_of_ble_eq_true rfl)⟩ ?_
  intro r9 z9 Ka Na Ia Ra ⟨e1, e2⟩
  subst e1
  obtain ⟨a1, a2, a3, a4⟩ := e2
  obtain rfl : z9 = x + 11 := by omega
  have hka : zK G (x + 11) Ka x 6 := ⟨h0, by omega, by rw [(a2 x (by omega)).1, va_up_n (by omega)]; exact hk.2.2⟩
  refine z_conv (st' := [.ref (x + 1), .ref x]) rfl rfl rfl rfl ?_
  refine z_pR (r := some _) C (ci := 6) (k := 0) rfl (by decide) rfl (by decide) tyX6_ok nmX6 wl_6 wq_1_16 (by decide) (fun r => by cases r <;> exact ⟨rfl, rfl⟩) (Or.inr ⟨rfl, hin rfl, rfl⟩) dX6_init_12 (by assumption) ?_
  refine z_aload_n C dX6_init_15 rfl ?_
  refine z_new C 2 (C0 := RX2) (T0 := TX2) (N0 := 3) rfl (by decide) rfl tyX2_ok dfv_2 wl_2 wq_1_17 wq_1_18 wq_1_19 dX6_init_16 (Nat.le_of_ble_eq_true rfl) (Nat.le_of_ble_eq_true rfl) ?_
  refine z_dup C dX6_init_19 rfl ?_
  refine z_callI C (mX2_init l G (b := x + 11) rfl (zK_new 2 (by omega))) (cwI 0 C.2.2.2.2.1 gn_X2_init rfl rfl rfl (C.2.2.2.2.1 _ wq_1_19) (C.2.2.2.2.1 _ wq_3_2) (C.2.2.2.2.1 _ wq_3_3) rfl hs_X2_init ⟨Nat.le_of_ble_eq_true rfl, Nat.le_of_ble_eq_true rfl⟩) rfl rfl (Nat.le_of_ble_eq_true rfl) dX6_init_20 ⟨(Nat.le_of_ble_eq_true rfl), (Nat.le_of_ble_eq_true rfl)⟩ ?_
  intro r9 z9 Kb Nb Ib Rb ⟨e1, e2⟩
  subst e1
  obtain ⟨b1, b2, b3⟩ := e2
  obtain rfl : z9 = x + 83 := by omega
  have hkb : zK G (x + 83) Kb x 6 := ⟨h0, by omega, by rw [(b2 x (by omega)).1, va_up_n (by omega)]; exact hka.2.2⟩
  refine z_conv (st' := [.ref (x + 11), .ref x]) rfl rfl rfl rfl ?_
  refine z_pR (r := some _) C (ci := 6) (k := 1) rfl (by decide) rfl (by decide) tyX6_ok nmX6 wl_6 wq_1_20 (by decide) (fun r => by cases r <;> exact ⟨rfl, rfl⟩) (Or.inr ⟨rfl, hin rfl, rfl⟩) dX6_init_23 (by assumption) ?_
  refine z_aload_n C dX6_init_26 rfl ?_
  refine z_iconst C dX6_init_27 ?_
  refine z_anew C 11 (Or.inr ⟨rfl, rfl⟩) dX6_init_28 wq_1_13 (by omega) (Nat.le_of_ble_eq_true rfl) (Nat.le_of_ble_eq_true rfl) ?_
  have hkc := zK_up 11 hkb
  rw [show (2 : Int).toNat = 2 from rfl, show x + 83 + 1 = x + 84 from rfl]
  rw [show x + 83 + 1 = x + 84 from rfl] at hkc
  refine z_pR (r := some _) C (ci := 6) (k := 2) rfl (by decide) rfl (by decide) tyX6_ok nmX6 wl_6 wq_1_21 (by decide) (fun r => by cases r <;> exact ⟨rfl, rfl⟩) (Or.inr ⟨rfl, hin rfl, rfl⟩) dX6_init_31 (by assumption) ?_
  refine z_aload_n C dX6_init_34 rfl ?_
  refine z_new C 5 (C0 := RX5) (T0 := TX5) (N0 := 7) rfl (by decide) rfl tyX5_ok dfv_5 wl_5 wq_1_22 wq_1_23 wq_2_0 dX6_init_35 (Nat.le_of_ble_eq_true rfl) (Nat.le_of_ble_eq_true rfl) ?_
  refine z_dup C dX6_init_38 rfl ?_
  refine z_callIN C (host := RX6) (mX5_init l G (b := x + 84) rfl (zK_new 5 (by omega))) ⟨va_cnB 0 C.2.2.2.2.1 gn_X5_init rfl rfl rfl (znw C.2.2.2.2.2.2.2.1 0 rfl) (C.2.2.2.2.1 _ wq_2_0) hs_X5_init ⟨Nat.le_of_ble_eq_true rfl, Nat.le_of_ble_eq_true rfl⟩, rfl, C.2.2.2.2.1 _ wq_3_9⟩ rfl rfl (Nat.le_of_ble_eq_true rfl) dX6_init_39 ⟨(Nat.le_of_ble_eq_true rfl), (Nat.le_of_ble_eq_true rfl)⟩ ?_
  intro r9 z9 Kd Nd Id Rd ⟨e1, e2⟩
  subst e1
  obtain ⟨d1, d2, d3⟩ := e2
  obtain rfl : z9 = x + 89 := by omega
  have hkd : zK G (x + 89) Kd x 6 := ⟨h0, by omega, by rw [(d2 x (by omega)).1, va_up_n (by omega)]; exact hkc.2.2⟩
  refine z_conv (st' := [.ref (x + 84), .ref x]) rfl rfl rfl rfl ?_
  refine z_pR (r := some _) C (ci := 6) (k := 3) rfl (by decide) rfl (by decide) tyX6_ok nmX6 wl_6 wq_2_1 (by decide) (fun r => by cases r <;> exact ⟨rfl, rfl⟩) (Or.inr ⟨rfl, hin rfl, rfl⟩) dX6_init_42 (by assumption) ?_
  refine z_aload_n C dX6_init_45 rfl ?_
  refine z_new C 3 (C0 := RX3) (T0 := TX3) (N0 := 5) rfl (by decide) rfl tyX3_ok dfv_3 wl_3 wq_2_2 wq_2_3 wq_2_4 dX6_init_46 (Nat.le_of_ble_eq_true rfl) (Nat.le_of_ble_eq_true rfl) ?_
  refine z_dup C dX6_init_49 rfl ?_
  refine z_callIN C (host := RX6) (mX3_init l G (b := x + 89) rfl (zK_new 3 (by omega))) ⟨va_cnB 0 C.2.2.2.2.1 gn_X3_init rfl rfl rfl (znw C.2.2.2.2.2.2.2.1 1 rfl) (C.2.2.2.2.1 _ wq_2_4) hs_X3_init ⟨Nat.le_of_ble_eq_true rfl, Nat.le_of_ble_eq_true rfl⟩, rfl, C.2.2.2.2.1 _ wq_3_17⟩ rfl rfl (Nat.le_of_ble_eq_true rfl) dX6_init_50 ⟨(Nat.le_of_ble_eq_true rfl), (Nat.le_of_ble_eq_true rfl)⟩ ?_
  intro r9 z9 Ke Ne Ie Re ⟨e1, e2⟩
  subst e1
  obtain ⟨e0, e2, e3, e4⟩ := e2
  obtain rfl : z9 = x + 92 := by omega
  have hke : zK G (x + 92) Ke x 6 := ⟨h0, by omega, by rw [(e2 x (by omega)).1, va_up_n (by omega)]; exact hkd.2.2⟩
  refine z_conv (st' := [.ref (x + 89), .ref x]) rfl rfl rfl rfl ?_
  refine z_pR (r := some _) C (ci := 6) (k := 4) rfl (by decide) rfl (by decide) tyX6_ok nmX6 wl_6 wq_2_5 (by decide) (fun r => by cases r <;> exact ⟨rfl, rfl⟩) (Or.inr ⟨rfl, hin rfl, rfl⟩) dX6_init_53 (by assumption) ?_
  have hD : ∀ a : Nat, a < x + 89 → Ke a = Kd a ∧ Ne a = Nd a ∧ Ie a = Id a ∧ (a ≠ x → Re a = Rd a) := fun a ha => by
    obtain ⟨w1, w2, w3, w4⟩ := e2 a (by omega)
    have w5 := w4 (by omega)
    rw [va_up_n (by omega)] at w1 w3 w5
    exact ⟨w1, w2, w3, fun hne => by rw [w5, u2_row hne]⟩
  have hC : ∀ a : Nat, a < x + 84 → Kd a = va_up Kb (x + 83) 11 a ∧ Nd a = va_up Nb (x + 83) 2 a ∧ Id a = Ib a ∧ (a ≠ x → Rd a = va_up (u2 Rb x 1 (some (x + 11))) (x + 83) (fun _ => none) a) := fun a ha => by
    obtain ⟨w1, w2, w3, w4⟩ := d2 a (by omega)
    have w5 := w4 (by omega)
    rw [va_up_n (show a ≠ x + 84 by omega)] at w1 w3 w5
    exact ⟨w1, w2, w3, fun hne => by rw [w5, u2_row hne]⟩
  have hB : ∀ a : Nat, a < x + 11 → Kb a = Ka a ∧ Nb a = Na a ∧ Ib a = Ia a ∧ (a ≠ x → Rb a = Ra a) := fun a ha => by
    obtain ⟨w1, w2, w3, w4⟩ := b2 a (by omega)
    have w5 := w4 (by omega)
    rw [va_up_n (by omega)] at w1 w3 w5
    exact ⟨w1, w2, w3, fun hne => by rw [w5, u2_row hne]⟩
  have old : ∀ a : Nat, a < x + 83 → Ke a = Kb a ∧ Ne a = Nb a ∧ Ie a = Ib a ∧ (a ≠ x → u2 Re x 4 (some (x + 89)) a = Rb a) := fun a ha => by
    obtain ⟨w1, w2, w3, w4⟩ := hD a (by omega)
    obtain ⟨y1, y2, y3, y4⟩ := hC a (by omega)
    rw [va_up_n (by omega)] at y1 y2
    exact ⟨w1.trans y1, w2.trans y2, w3.trans y3, fun hne => by rw [u2_row hne, w4 hne, y4 hne, va_up_n (by omega), u2_row hne]⟩
  have x9 : Re x = u2 Rd x 3 (some (x + 84)) x := by
    have w := (e2 x (by omega)).2.2.2 (by omega)
    rw [va_up_n (by omega)] at w
    exact w
  have x8 : Rd x = u2 (va_up (u2 Rb x 1 (some (x + 11))) (x + 83) (fun _ => none)) x 2 (some (x + 83)) x := by
    have w := (d2 x (by omega)).2.2.2 (by omega)
    rw [va_up_n (by omega)] at w
    exact w
  have x7 : Rb x = u2 Ra x 0 (some (x + 1)) x := by
    have w := (b2 x (by omega)).2.2.2 (by omega)
    rw [va_up_n (by omega)] at w
    exact w
  have hT := a3.mono (z' := x + 92) (K' := Ke) (N' := Ne) (R' := u2 Re x 4 (some (x + 89))) (by omega) (fun a h1 h2 => by
    obtain ⟨w1, w2, w3, w4⟩ := old a (by omega)
    obtain ⟨y1, y2, y3, y4⟩ := hB a (by omega)
    exact ⟨w1.trans y1, w2.trans y2, (w4 (by omega)).trans (y4 (by omega))⟩)
  have hH := b3.mono (z' := x + 92) (K' := Ke) (N' := Ne) (R' := u2 Re x 4 (some (x + 89))) (by omega) (fun a h1 h2 => by
    obtain ⟨w1, w2, w3, w4⟩ := old a (by omega)
    exact ⟨w1, w2, w4 (by omega)⟩)
  have hX := d3.mono (z' := x + 92) (K' := Ke) (N' := Ne) (R' := u2 Re x 4 (some (x + 89))) (by omega) (fun a h1 h2 => by
    obtain ⟨w1, w2, w3, w4⟩ := hD a (by omega)
    exact ⟨w1, w2⟩) (by rw [u2_row (by omega)]; exact (hD (x + 84) (by omega)).2.2.2 (by omega))
  have hP := e3.mono (z' := x + 92) (K' := Ke) (N' := Ne) (R' := u2 Re x 4 (some (x + 89))) (by omega) (fun a h1 h2 => ⟨rfl, rfl⟩) (u2_row (by omega))
  have s1 := (hD (x + 83) (by omega)).1.trans (hC (x + 83) (by omega)).1
  have s2 := (hD (x + 83) (by omega)).2.1.trans (hC (x + 83) (by omega)).2.1
  have s3 := ((hD (x + 83) (by omega)).2.2.2 (by omega)).trans ((hC (x + 83) (by omega)).2.2.2 (by omega))
  rw [va_up_s] at s1 s2 s3
  refine z_vret2 C hQ rfl dX6_init_56 ⟨rfl, rfl, ⟨hke, ?_, ?_, ?_, ?_, ?_⟩, ⟨hT, hH, ⟨⟨by omega, by omega, s1⟩, s2⟩, hX, hP⟩, ⟨?_, ?_⟩, ?_, ?_, ?_, ?_, e4⟩
  · rw [u2_k (by omega), x9, u2_k (by omega), x8, u2_k (by omega), va_up_n (by omega), u2_k (by omega), x7, u2_s]
  · rw [u2_k (by omega), x9, u2_k (by omega), x8, u2_k (by omega), va_up_n (by omega), u2_s]
  · rw [u2_k (by omega), x9, u2_k (by omega), x8, u2_s]
  · rw [u2_k (by omega), x9, u2_s]
  · rw [u2_s]
  · rw [u2_row (by omega), s3]
  · rw [u2_row (by omega), s3]
  · rw [(old (x + 2) (by omega)).2.2.1, (hB (x + 2) (by omega)).2.2.1]; exact a4
  · rw [(old (x + 1) (by omega)).2.2.1, (hB (x + 1) (by omega)).2.2.1, (a2 (x + 1) (by omega)).2.2.1, va_up_s]
  · rw [(old (x + 11) (by omega)).2.2.1, (b2 (x + 11) (by omega)).2.2.1, va_up_s]
  · rw [(e2 (x + 89) (by omega)).2.2.1, va_up_s]

set_option maxHeartbeats 4000000 in
set_option maxRecDepth 100000 in
theorem mX7_init (l : Launch) (G : GG) {z : Nat} {K N : Nat → Nat} {I : MI} {R : MR} {o : Nat} (hz : z = o + 1) (hk : zK G z K o 7) : Con l G yX7_init (Cond.code yX7_init cX7_init 1 none :: wsL_law) ⟨1, 7, 2248, 20⟩ 7 2248 [.ref o] z K N I R (fun r z' K' N' I' R' => r = none ∧ P7 G o K N I R z' K' N' I' R') := by
  refine Con.of (own := RX7) (cc := cX7_init) (maxL := 1) (ret := none) (by decide +kernel) rfl rfl (Nat.le_of_ble_eq_true rfl) (by decide) rfl ?_
  intro p e9 s mt args below meth c Q hin hQ C
  subst hz
  have h0 := hk.1
  have hk2 := hk.2.2
  have q0 := hk
  have hafter : ∀ (K2 N2 : Nat → Nat) (I2 : MI) (R2 : MR), Iv7 G o K N I R K2 N2 I2 R2 → Zq p l e9 ⟨1, 7, 2248, 20⟩ s mt args below meth c G 1 Q 7 2248 (o + 8) K2 N2 I2 R2 62 [(0, .ref o)] [] := by
    intro K2 N2 I2 R2 hI
    obtain ⟨ho, ⟨r0, r1, r3, r4, r5, r7, r8⟩, ⟨k1, k2, k3, k4, k5, k6, k7⟩, n1, n2, n3, n4, n5, n6, n7⟩ := id hI.2.1
    refine z_aload_n C dX7_init_62 rfl ?_
    refine z_gR C (ci := 7) (k := 0) rfl (by decide) rfl (by decide) wl_7 wq_4_3 (by decide) dX7_init_63 (by assumption) (by assumption) ?_
    refine z_iconst C dX7_init_66 ?_
    refine z_iconst C dX7_init_67 ?_
    refine z_iastk C (0) dX7_init_68 (by assumption) (by first | rfl | omega) (by omega) (by omega) ?_
    refine z_aload_n C dX7_init_69 rfl ?_
    refine z_gR C (ci := 7) (k := 0) rfl (by decide) rfl (by decide) wl_7 wq_4_3 (by decide) dX7_init_70 (by assumption) (by assumption) ?_
    refine z_iconst C dX7_init_73 ?_
    refine z_bipush C dX7_init_74 (by decide) ?_
    refine z_iastk C (1) dX7_init_76 (by assumption) (by first | rfl | omega) (by omega) (by omega) ?_
    refine z_aload_n C dX7_init_77 rfl ?_
    refine z_gR C (ci := 7) (k := 0) rfl (by decide) rfl (by decide) wl_7 wq_4_3 (by decide) dX7_init_78 (by assumption) (by assumption) ?_
    refine z_iconst C dX7_init_81 ?_
    refine z_bipush C dX7_init_82 (by decide) ?_
    refine z_iastk C (2) dX7_init_84 (by assumption) (by first | rfl | omega) (by omega) (by omega) ?_
    exact z_vret2 C hQ rfl dX7_init_85 ⟨rfl, hI.p⟩
  refine z_aload_n C dX7_init_0 rfl ?_
  refine z_objInit C wq_4_2 wq_1_11 wq_1_12 dX7_init_1 (Nat.le_of_ble_eq_true rfl) (Nat.le_of_ble_eq_true rfl) ?_
  refine z_aload_n C dX7_init_4 rfl ?_
  refine z_sipush C dX7_init_5 (by decide) ?_
  refine z_newa C dX7_init_8 wq_2_17 (by omega) (Nat.le_of_ble_eq_true rfl) (Nat.le_of_ble_eq_true rfl) ?_
  have q1 := zK_up 9 q0
  rw [show (236 : Int).toNat = 236 from rfl]
  refine z_pR (r := some _) C (ci := 7) (k := 0) rfl (by decide) rfl (by decide) tyX7_ok nmX7 wl_7 wq_4_3 (by decide) (fun r => by cases r <;> exact ⟨rfl, rfl⟩) (Or.inr ⟨rfl, hin rfl, rfl⟩) dX7_init_10 (by assumption) ?_
  refine z_aload_n C dX7_init_13 rfl ?_
  refine z_sipush C dX7_init_14 (by decide) ?_
  refine z_newa C dX7_init_17 wq_2_17 (by omega) (Nat.le_of_ble_eq_true rfl) (Nat.le_of_ble_eq_true rfl) ?_
  have q2 := zK_up 9 q1
  rw [show (1416 : Int).toNat = 1416 from rfl]
  refine z_pR (r := some _) C (ci := 7) (k := 1) rfl (by decide) rfl (by decide) tyX7_ok nmX7 wl_7 wq_4_4 (by decide) (fun r => by cases r <;> exact ⟨rfl, rfl⟩) (Or.inr ⟨rfl, hin rfl, rfl⟩) dX7_init_19 (by assumption) ?_
  refine z_aload_n C dX7_init_22 rfl ?_
  refine z_sipush C dX7_init_23 (by decide) ?_
  refine z_newa C dX7_init_26 wq_2_17 (by omega) (Nat.le_of_ble_eq_true rfl) (Nat.le_of_ble_eq_true rfl) ?_
  have q3 := zK_up 9 q2
  rw [show (472 : Int).toNat = 472 from rfl]
  refine z_pR (r := some _) C (ci := 7) (k := 3) rfl (by decide) rfl (by decide) tyX7_ok nmX7 wl_7 wq_4_5 (by decide) (fun r => by cases r <;> exact ⟨rfl, rfl⟩) (Or.inr ⟨rfl, hin rfl, rfl⟩) dX7_init_28 (by assumption) ?_
  refine z_aload_n C dX7_init_31 rfl ?_
  refine z_iconst C dX7_init_32 ?_
  refine z_newa C dX7_init_33 wq_2_17 (by omega) (Nat.le_of_ble_eq_true rfl) (Nat.le_of_ble_eq_true rfl) ?_
  have q4 := zK_up 9 q3
  rw [show (2 : Int).toNat = 2 from rfl]
  refine z_pR (r := some _) C (ci := 7) (k := 4) rfl (by decide) rfl (by decide) tyX7_ok nmX7 wl_7 wq_4_6 (by decide) (fun r => by cases r <;> exact ⟨rfl, rfl⟩) (Or.inr ⟨rfl, hin rfl, rfl⟩) dX7_init_35 (by assumption) ?_
  refine z_aload_n C dX7_init_38 rfl ?_
  refine z_bipush C dX7_init_39 (by decide) ?_
  refine z_newa C dX7_init_41 wq_2_17 (by omega) (Nat.le_of_ble_eq_true rfl) (Nat.le_of_ble_eq_true rfl) ?_
  have q5 := zK_up 9 q4
  rw [show (80 : Int).toNat = 80 from rfl]
  refine z_pR (r := some _) C (ci := 7) (k := 5) rfl (by decide) rfl (by decide) tyX7_ok nmX7 wl_7 wq_4_7 (by decide) (fun r => by cases r <;> exact ⟨rfl, rfl⟩) (Or.inr ⟨rfl, hin rfl, rfl⟩) dX7_init_43 (by assumption) ?_
  refine z_aload_n C dX7_init_46 rfl ?_
  refine z_bipush C dX7_init_47 (by decide) ?_
  refine z_newa C dX7_init_49 wq_2_17 (by omega) (Nat.le_of_ble_eq_true rfl) (Nat.le_of_ble_eq_true rfl) ?_
  have q6 := zK_up 9 q5
  rw [show (14 : Int).toNat = 14 from rfl]
  refine z_pR (r := some _) C (ci := 7) (k := 7) rfl (by decide) rfl (by decide) tyX7_ok nmX7 wl_7 wq_4_8 (by decide) (fun r => by cases r <;> exact ⟨rfl, rfl⟩) (Or.inr ⟨rfl, hin rfl, rfl⟩) dX7_init_51 (by assumption) ?_
  refine z_aload_n C dX7_init_54 rfl ?_
  refine z_bipush C dX7_init_55 (by decide) ?_
  refine z_newa C dX7_init_57 wq_2_17 (by omega) (Nat.le_of_ble_eq_true rfl) (Nat.le_of_ble_eq_true rfl) ?_
  have q7 := zK_up 9 q6
  rw [show (28 : Int).toNat = 28 from rfl]
  refine z_pR (r := some _) C (ci := 7) (k := 8) rfl (by decide) rfl (by decide) tyX7_ok nmX7 wl_7 wq_4_9 (by decide) (fun r => by cases r <;> exact ⟨rfl, rfl⟩) (Or.inr ⟨rfl, hin rfl, rfl⟩) dX7_init_59 (by assumption) ?_
  refine hafter _ _ _ _ ⟨fun a ha => ⟨?_, ?_, ?_, fun hne => ?_⟩, ⟨⟨h0, by omega, ?_⟩, ⟨?_, ?_, ?_, ?_, ?_, ?_, ?_⟩, ⟨⟨by omega, by omega, ?_⟩, ⟨by omega, by omega, ?_⟩, ⟨by omega, by omega, ?_⟩, ⟨by omega, by omega, ?_⟩, ⟨by omega, by omega, ?_⟩, ⟨by omega, by omega, ?_⟩, ⟨by omega, by omega, ?_⟩⟩, ?_, ?_, ?_, ?_, ?_, ?_, ?_⟩, fun j j1 j2 => ?_⟩
  · exact (by simp only [va_up, u2]; (repeat first | rw [if_neg (by omega)] | rw [if_pos (by omega)] | simp only [u2]); first | done | rfl | assumption)
  · exact (by simp only [va_up, u2]; (repeat first | rw [if_neg (by omega)] | rw [if_pos (by omega)] | simp only [u2]); first | done | rfl | assumption)
  · exact (by simp only [va_up, u2]; (repeat first | rw [if_neg (by omega)] | rw [if_pos (by omega)] | simp only [u2]); first | done | rfl | assumption)
  · rw [u2_row hne, u2_row hne, u2_row hne, u2_row hne, u2_row hne, u2_row hne, u2_row hne]
  · exact (by simp only [va_up, u2]; (repeat first | rw [if_neg (by omega)] | rw [if_pos (by omega)] | simp only [u2]); first | done | rfl | assumption)
  · (repeat rw [u2_k (by omega)]); exact u2_s _ _ _ _
  · (repeat rw [u2_k (by omega)]); exact u2_s _ _ _ _
  · (repeat rw [u2_k (by omega)]); exact u2_s _ _ _ _
  · (repeat rw [u2_k (by omega)]); exact u2_s _ _ _ _
  · (repeat rw [u2_k (by omega)]); exact u2_s _ _ _ _
  · (repeat rw [u2_k (by omega)]); exact u2_s _ _ _ _
  · (repeat rw [u2_k (by omega)]); exact u2_s _ _ _ _
  · exact (by simp only [va_up, u2]; (repeat first | rw [if_neg (by omega)] | rw [if_pos (by omega)] | simp only [u2]); first | done | rfl | assumption)
  · exact (by simp only [va_up, u2]; (repeat first | rw [if_neg (by omega)] | rw [if_pos (by omega)] | simp only [u2]); first | done | rfl | assumption)
  · exact (by simp only [va_up, u2]; (repeat first | rw [if_neg (by omega)] | rw [if_pos (by omega)] | simp only [u2]); first | done | rfl | assumption)
  · exact (by simp only [va_up, u2]; (repeat first | rw [if_neg (by omega)] | rw [if_pos (by omega)] | simp only [u2]); first | done | rfl | assumption)
  · exact (by simp only [va_up, u2]; (repeat first | rw [if_neg (by omega)] | rw [if_pos (by omega)] | simp only [u2]); first | done | rfl | assumption)
  · exact (by simp only [va_up, u2]; (repeat first | rw [if_neg (by omega)] | rw [if_pos (by omega)] | simp only [u2]); first | done | rfl | assumption)
  · exact (by simp only [va_up, u2]; (repeat first | rw [if_neg (by omega)] | rw [if_pos (by omega)] | simp only [u2]); first | done | rfl | assumption)
  · exact (by simp only [va_up, u2]; (repeat first | rw [if_neg (by omega)] | rw [if_pos (by omega)] | simp only [u2]); first | done | rfl | assumption)
  · exact (by simp only [va_up, u2]; (repeat first | rw [if_neg (by omega)] | rw [if_pos (by omega)] | simp only [u2]); first | done | rfl | assumption)
  · exact (by simp only [va_up, u2]; (repeat first | rw [if_neg (by omega)] | rw [if_pos (by omega)] | simp only [u2]); first | done | rfl | assumption)
  · exact (by simp only [va_up, u2]; (repeat first | rw [if_neg (by omega)] | rw [if_pos (by omega)] | simp only [u2]); first | done | rfl | assumption)
  · exact (by simp only [va_up, u2]; (repeat first | rw [if_neg (by omega)] | rw [if_pos (by omega)] | simp only [u2]); first | done | rfl | assumption)
  · exact (by simp only [va_up, u2]; (repeat first | rw [if_neg (by omega)] | rw [if_pos (by omega)] | simp only [u2]); first | done | rfl | assumption)
  · exact (by simp only [va_up, u2]; (repeat first | rw [if_neg (by omega)] | rw [if_pos (by omega)] | simp only [u2]); first | done | rfl | assumption)
  · rcases (show j = 1 ∨ j = 2 ∨ j = 3 ∨ j = 4 ∨ j = 5 ∨ j = 6 ∨ j = 7 by omega) with e | e | e | e | e | e | e <;> subst e <;> exact (by simp only [va_up, u2]; (repeat first | rw [if_neg (by omega)] | rw [if_pos (by omega)] | simp only [u2]); first | done | rfl | assumption)

