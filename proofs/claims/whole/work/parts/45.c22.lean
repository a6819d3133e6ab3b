theorem zK_up {G : GG} {z : Nat} {K : Nat → Nat} {a c : Nat} (kd : Nat) (h : zK G z K a c) : zK G (z + 1) (va_up K z kd) a c :=
  ⟨h.1, Nat.lt_succ_of_lt h.2.1, (va_up_n (Nat.ne_of_lt h.2.1)).trans h.2.2⟩
theorem zK_new {G : GG} {z : Nat} {K : Nat → Nat} (kd : Nat) (h : G.2.2.size ≤ z) : zK G (z + 1) (va_up K z kd) z kd :=
  ⟨h, Nat.lt_succ_self z, va_up_s _ _ _⟩
theorem zK_z {G : GG} {z : Nat} {K : Nat → Nat} {a c : Nat} (h : zK G z K a c) : G.2.2.size ≤ z := Nat.le_trans h.1 (Nat.le_of_lt h.2.1)
theorem clw_J7 : ∀ w ∈ zclw RJ7 316, w ∈ wsL_law := by
  intro w hw
  rcases List.mem_cons.mp hw with e | hw
  · rw [e]; exact wq_18_9
  rcases List.mem_cons.mp hw with e | hw
  · rw [e]; exact wq_2_11
  rcases List.mem_cons.mp hw with e | hw
  · rw [e]; exact wq_2_12
  rcases List.mem_cons.mp hw with e | hw
  · rw [e]; exact wq_2_13
  rcases List.mem_cons.mp hw with e | hw
  · rw [e]; exact wq_2_14
  cases hw
theorem clw_X4 : ∀ w ∈ zclw RX4 13, w ∈ wsL_law := by
  intro w hw
  rcases List.mem_cons.mp hw with e | hw
  · rw [e]; exact wq_2_10
  rcases List.mem_cons.mp hw with e | hw
  · rw [e]; exact wq_2_11
  rcases List.mem_cons.mp hw with e | hw
  · rw [e]; exact wq_2_12
  rcases List.mem_cons.mp hw with e | hw
  · rw [e]; exact wq_2_13
  rcases List.mem_cons.mp hw with e | hw
  · rw [e]; exact wq_2_14
  cases hw
set_option maxHeartbeats 4000000 in
set_option maxRecDepth 100000 in
theorem mJ7_copyOf_59c91 (l : Launch) (G : GG) {z : Nat} {K N : Nat → Nat} {I : MI} {R : MR} {a n : Nat} (ha : zK G z K a 9) (h28 : N a = 28) (hn : n ≤ 28) : Con l G yJ7_copyOf_59c91 (Cond.code yJ7_copyOf_59c91 cJ7_copyOf_59c91 3 (some (.array .int)) :: wsL_law) ⟨1, 1, 28, 29⟩ 1 28 [.ref a, .int (zI (n : Int))] z K N I R (fun r z' K' N' I' R' => r = some (.ref z) ∧ z' = z + 1 ∧ K' = va_up K z 9 ∧ N' = va_up N z n ∧ R' = R ∧ ∃ row : Nat → Int, I' = va_up I z row ∧ ∀ j : Nat, j < n → row j = I a j) := by
  refine Con.of (own := RJ7) (cc := cJ7_copyOf_59c91) (maxL := 3) (ret := (some (.array .int))) (by decide +kernel) rfl rfl (Nat.le_of_ble_eq_true rfl) (by decide) rfl ?_
  intro p e9 s mt args below meth c Q hin hQ C
  have hz9 := zK_z ha
  refine z_iload_n C dJ7_copyOf_59c91_0 rfl ?_
  refine z_aload_n C dJ7_copyOf_59c91_1 rfl ?_
  refine z_alen C dJ7_copyOf_59c91_2 ha ?_
  rw [h28]
  refine z_icmp_ne C (tgt := 14) dJ7_copyOf_59c91_3 (by decide) (by first | omega | exact b2i_r) (by first | omega | exact b2i_r) (fun h3 => ?_) (fun h3 => ?_)
  · refine z_iload_n C dJ7_copyOf_59c91_14 rfl ?_
    refine z_newa C dJ7_copyOf_59c91_15 wq_2_17 (by omega) (Nat.le_of_ble_eq_true rfl) (by show 0 + (n : Int).toNat ≤ 28; omega) ?_
    rw [show (n : Int).toNat = n from rfl]
    have ha2 := zK_up 9 ha
    have hb2 : zK G (z + 1) (va_up K z 9) z 9 := zK_new 9 hz9
    have hne : a ≠ z := Nat.ne_of_lt ha.2.1
    have hNa : va_up N z n a = 28 := by rw [va_up_n hne]; exact h28
    have hNz : va_up N z n z = n := va_up_s _ _ _
    refine z_astore_n C dJ7_copyOf_59c91_17 (by decide) rfl ?_
    refine z_aload_n C dJ7_copyOf_59c91_18 rfl ?_
    refine z_iconst C dJ7_copyOf_59c91_19 ?_
    refine z_aload_n C dJ7_copyOf_59c91_20 rfl ?_
    refine z_iconst C dJ7_copyOf_59c91_21 ?_
    refine z_aload_n C dJ7_copyOf_59c91_22 rfl ?_
    refine z_alen C dJ7_copyOf_59c91_23 ha2 ?_
    rw [hNa]
    refine z_iload_n C dJ7_copyOf_59c91_24 rfl ?_
    refine z_min C wq_18_11 wq_7_14 wq_7_6 wq_7_15 (Nat.le_of_ble_eq_true rfl) (Nat.le_of_ble_eq_true rfl) (Nat.le_of_ble_eq_true rfl) (by show 0 + n ≤ 28; omega) dJ7_copyOf_59c91_25 (by omega) (by omega) ?_
    have hmin : (if (n : Int) < ((28 : Nat) : Int) then (n : Int) else ((28 : Nat) : Int)) = (n : Int) := by split <;> omega
    rw [hmin]
    refine z_acopy C wq_18_12 wq_5_0 wq_5_1 wq_5_2 ha2 hb2 (by omega) (by omega) (by omega) (by omega) (by omega) (Nat.le_of_ble_eq_true rfl) (Nat.le_of_ble_eq_true rfl) dJ7_copyOf_59c91_28 ?_
    refine z_aload_n C dJ7_copyOf_59c91_31 rfl ?_
    refine z_widen (k := 1) (n := 28) (Nat.le_of_ble_eq_true rfl) (by show 0 + n ≤ 28; omega) ?_
    exact z_aret2 (r := some z) C hQ rfl (Or.inr ⟨_, rfl⟩) dJ7_copyOf_59c91_32 ⟨rfl, rfl, rfl, rfl, rfl, _, va_up2 _ _ _ _, fun j hj => by rw [va_up_n hne]; unfold zcpy; rw [if_pos (by show (0 : Int).toNat ≤ j ∧ j < (0 : Int).toNat + (n : Int).toNat; omega)]; exact congrArg (I a) (by show (0 : Int).toNat + (j - (0 : Int).toNat) = j; omega)⟩
  · refine z_aload_n C dJ7_copyOf_59c91_6 rfl ?_
    refine z_clone C (i := 316) clw_J7 ha dJ7_copyOf_59c91_7 (Nat.le_of_ble_eq_true rfl) (Nat.le_of_ble_eq_true rfl) (Nat.le_of_ble_eq_true rfl) (by show 0 + N a ≤ 28; omega) ?_
    refine z_castA C dJ7_copyOf_59c91_10 wq_18_10 (zK_new 9 hz9) ?_
    refine z_widen (k := 1) (n := 28) (Nat.le_of_ble_eq_true rfl) (by show 0 + N a ≤ 28; omega) ?_
    exact z_aret2 (r := some z) C hQ rfl (Or.inr ⟨_, rfl⟩) dJ7_copyOf_59c91_13 ⟨rfl, rfl, rfl, by rw [show N a = n by omega], rfl, I a, rfl, fun _ _ => rfl⟩

set_option maxHeartbeats 4000000 in
set_option maxRecDepth 100000 in
theorem mX0_init (l : Launch) (G : GG) {z : Nat} {K N : Nat → Nat} {I : MI} {R : MR} {c9 b n : Nat} (hc : zK G z K c9 0) (hX : ShX G z K N R b) (hl : I b 1 = ((2 * n : Nat) : Int)) (hn : 2 * n ≤ 28) {v : Int} : Con l G yX0_init (Cond.code yX0_init cX0_init 3 none :: wsL_law) ⟨2, 1, 28, 51⟩ 1 28 [.ref c9, .ref b, .int (zI v)] z K N I R (fun r z' K' N' I' R' => r = none ∧ z' = z + 1 ∧ K' = va_up K z 9 ∧ N' = va_up N z (2 * n) ∧ R' = u2 R c9 0 (some z) ∧ ∃ row : Nat → Int, I' = u2 (u2 (va_up I z row) c9 1 (I b 2)) c9 2 v ∧ ∀ j : Nat, j < 2 * n → row j = I (b + 1) j) := by
  refine Con.of (own := RX0) (cc := cX0_init) (maxL := 3) (ret := none) (by decide +kernel) rfl rfl (Nat.le_of_ble_eq_true rfl) (by decide) rfl ?_
  intro p e9 s mt args below meth c Q hin hQ C
  obtain ⟨xo, ⟨x0, x4, x5, x6⟩, ⟨y1, y2, y3, y4⟩, w1, w3, w4⟩ := id hX
  refine z_aload_n C dX0_init_0 rfl ?_
  refine z_objInit C wq_17_22 wq_1_11 wq_1_12 dX0_init_1 (Nat.le_of_ble_eq_true rfl) (Nat.le_of_ble_eq_true rfl) ?_
  refine z_aload_n C dX0_init_4 rfl ?_
  refine z_aload_n C dX0_init_5 rfl ?_
  refine z_gR C (ci := 5) (k := 0) rfl (by decide) rfl (by decide) wl_5 wq_17_23 (by decide) dX0_init_6 (by assumption) (by assumption) ?_
  refine z_aload_n C dX0_init_9 rfl ?_
  refine z_gI C (ci := 5) (k := 1) rfl (by decide) rfl (by decide) wl_5 wq_18_0 rfl dX0_init_10 (by assumption) ?_
  rw [hl]
  refine z_callS C (mJ7_copyOf_59c91 l G y1 w1 hn) (va_cwS 2 C.2.2.2.2.1 gv0_17 rfl rfl rfl hs_J7_copyOf_59c91 ⟨Nat.le_of_ble_eq_true rfl, Nat.le_of_ble_eq_true rfl⟩) rfl rfl (Nat.le_of_ble_eq_true rfl) dX0_init_13 ⟨Nat.le_of_ble_eq_true rfl, Nat.le_of_ble_eq_true rfl⟩ ?_
  intro r9 z9 K9 N9 I9 R9 ⟨e1, e2, e3, e4, e5, row, e6, e7⟩
  subst e1; subst e2; subst e3; subst e4; subst e5; subst e6
  have hc2 := zK_up 9 hc
  have hb2 := zK_up 9 xo
  have hcz : c9 ≠ z := Nat.ne_of_lt hc.2.1
  have hbz : b ≠ z := Nat.ne_of_lt xo.2.1
  refine z_conv (st' := [.ref z, .ref c9]) rfl rfl rfl rfl ?_
  refine z_pR (r := some z) C (ci := 0) (k := 0) rfl (by decide) rfl (by decide) tyX0_ok nmX0 wl_0 wq_18_1 (by decide) (fun r => by cases r <;> exact ⟨rfl, rfl⟩) (Or.inr ⟨rfl, hin rfl, rfl⟩) dX0_init_16 (by assumption) ?_
  refine z_aload_n C dX0_init_19 rfl ?_
  refine z_aload_n C dX0_init_20 rfl ?_
  refine z_gI C (ci := 5) (k := 2) rfl (by decide) rfl (by decide) wl_5 wq_18_2 rfl dX0_init_21 (by assumption) ?_
  rw [va_up_n hbz]
  refine z_pI C (ci := 0) (k := 1) rfl (by decide) rfl (by decide) tyX0_ok nmX0 wl_0 wq_18_3 rfl (Or.inr ⟨rfl, hin rfl, rfl⟩) dX0_init_24 (by assumption) ?_
  refine z_aload_n C dX0_init_27 rfl ?_
  refine z_iload_n C dX0_init_28 rfl ?_
  refine z_pI C (ci := 0) (k := 2) rfl (by decide) rfl (by decide) tyX0_ok nmX0 wl_0 wq_18_4 rfl (Or.inr ⟨rfl, hin rfl, rfl⟩) dX0_init_29 (by assumption) ?_
  exact z_vret2 C hQ rfl dX0_init_32 ⟨rfl, rfl, rfl, rfl, rfl, row, rfl, e7⟩

