def CPn (G : GG) (x z : Nat) (K N : Nat → Nat) (I : MI) (R : MR) (f h s v P : Nat → Int) (n len : Int) (z' : Nat) (K' N' : Nat → Nat) (I' : MI) (R' : MR) : Prop :=
  FrM x z K N I R z' K' N' I' R' ∧ CI G x z' K' N' I' R' f h s v P n len
theorem FrM.rfl {x z : Nat} {K N : Nat → Nat} {I : MI} {R : MR} : FrM x z K N I R z K N I R := ⟨Nat.le_refl z, fun _ _ => ⟨_root_.rfl, _root_.rfl⟩, fun _ _ _ => ⟨_root_.rfl, _root_.rfl⟩⟩
theorem CI.trl {G : GG} {x z : Nat} {K N : Nat → Nat} {I J : MI} {R R9 : MR} {f h s v P : Nat → Int} {n len : Int} (c : CI G x z K N I R f h s v P n len) (hJ : ∀ a : Nat, (a < x + 84 ∨ x + 84 + 5 ≤ a) → J a = I a) (hR : ∀ a : Nat, a ≠ x + 86 → R9 a = R a) : CPn G x z K N I R f h s v P n len z K N J R9 := by
  have tz := (c.2.2.1.1.2.2.2.2 5 (by omega)).1.2.1
  have sk : StK x z K N I R z K N J R9 := ⟨Nat.le_refl z, fun _ _ => ⟨rfl, rfl⟩, fun a _ _ => ⟨fun h => hJ a (by omega), fun h => hR a h⟩⟩
  refine ⟨⟨Nat.le_refl z, fun _ _ => ⟨rfl, rfl⟩, fun a h1 h2 => ⟨hJ a (by omega), hR a (by omega)⟩⟩, c.stp sk ?_⟩
  exact c.2.2.1.keep (CK.lo (Nat.le_refl z) (fun _ _ => ⟨rfl, rfl⟩) fun a h1 h2 => ⟨hJ a (by omega), hR a (by omega)⟩) fun a h1 h2 => ⟨hJ a (by omega), hR a (by omega)⟩
def bcL (w : Nat → Int) : Nat → Int
  | 0 => 2147483647
  | i + 1 => if w i < bcL w i then w i else bcL w i
def bcB (w : Nat → Int) : Nat → Int
  | 0 => -99
  | i + 1 => if w i < bcL w i then (i : Int) - 99 else bcB w i
theorem bcL_s (w : Nat → Int) (i : Nat) : bcL w (i + 1) = if w i < bcL w i then w i else bcL w i := rfl
theorem bcB_s (w : Nat → Int) (i : Nat) : bcB w (i + 1) = if w i < bcL w i then (i : Int) - 99 else bcB w i := rfl
theorem bcL_r {w : Nat → Int} {n : Nat} (hw : ∀ i : Nat, i < n → 0 ≤ w i ∧ w i ≤ 16000198) : ∀ i : Nat, i ≤ n → (0 ≤ bcL w i ∧ bcL w i ≤ 2147483647) ∧ -99 ≤ bcB w i ∧ bcB w i ≤ i
  | 0, _ => ⟨⟨by show (0 : Int) ≤ 2147483647; omega, by show (2147483647 : Int) ≤ 2147483647; omega⟩, by show (-99 : Int) ≤ -99; omega, by show (-99 : Int) ≤ ((0 : Nat) : Int); omega⟩
  | i + 1, h => by
    have ih := bcL_r hw i (by omega)
    have := hw i (by omega)
    rw [bcL_s, bcB_s]
    split <;> omega
theorem bc_be {w : Nat → Int} {n : Nat} (hw : ∀ i : Nat, i < n → 0 ≤ w i ∧ w i ≤ 16000198) : ∀ i : Nat, i + 1 ≤ n → bcL w (i + 1) = beL w (i + 1) ∧ bcB w (i + 1) = beB w (i + 1)
  | 0, h => by
    have := hw 0 (by omega)
    have e1 : bcL w 1 = w 0 := if_pos (show w 0 < 2147483647 by omega)
    have e2 : bcB w 1 = ((0 : Nat) : Int) - 99 := if_pos (show w 0 < 2147483647 by omega)
    have e3 : beL w 1 = w 0 := if_pos (Or.inl rfl)
    have e4 : beB w 1 = ((0 : Nat) : Int) - 99 := if_pos (Or.inl rfl)
    exact ⟨e1.trans e3.symm, e2.trans e4.symm⟩
  | i + 1, h => by
    obtain ⟨a, b⟩ := bc_be hw i (by omega)
    have r := (bcL_r hw (i + 1) (by omega)).1
    rw [bcL_s, bcB_s, beL_s, beB_s, ← a, ← b]
    by_cases c : w (i + 1) < bcL w (i + 1)
    · rw [if_pos c, if_pos c, if_pos (Or.inr c), if_pos (Or.inr c)]; exact ⟨rfl, rfl⟩
    · have c2 : ¬ (bcL w (i + 1) = -6 ∨ w (i + 1) < bcL w (i + 1)) := by omega
      rw [if_neg c, if_neg c, if_neg c2, if_neg c2]; exact ⟨rfl, rfl⟩
set_option maxHeartbeats 4000000 in
set_option maxRecDepth 100000 in
theorem mX6_test (l : Launch) (G : GG) {z : Nat} {K N : Nat → Nat} {I : MI} {R : MR} {x : Nat} {f h s0 v0 P : Nat → Int} {n len : Int} (hC : CI G x z K N I R f h s0 v0 P n len) (hx : x + 100 ≤ z) {gg wh : Int} (hgg : -2147483648 ≤ gg ∧ gg < 2147483648) (hwh : -2147483648 ≤ wh ∧ wh < 2147483648) : Con l G yX6_test (Cond.code yX6_test cX6_test 4 (some .int) :: wsL_law) ⟨4, 0, 0, 88⟩ 0 0 [.ref x, .int (zI gg), .int (zI wh)] z K N I R (fun r z' K' N' I' R' => r = some (.int (zI (if 0 ≤ gg ∧ gg ≤ f 5 - 1 then (if 0 ≤ wh ∧ wh ≤ 3 then (if f 3 = 0 then -5 else (if wh = 0 then gTst f gg.toNat (f (20 + 36 * gg.toNat)) else if wh = 1 then b2i (gTst f gg.toNat (f (20 + 36 * gg.toNat)) ≤ f 2) else if wh = 2 then wTst f gg.toNat (f (20 + 36 * gg.toNat)) else 2 * f 3)) else -2) else -1))) ∧ CPn G x z K N I R f h s0 v0 P n len z' K' N' I' R') := by
  refine Con.of (own := RX6) (cc := cX6_test) (maxL := 4) (ret := (some .int)) (by decide +kernel) rfl rfl (Nat.le_of_ble_eq_true rfl) (by decide) rfl ?_
  intro p e9 s mt args below meth c Q hin hQ C
  obtain ⟨⟨cx, cr0, cr1, cr2, cr3, cr4⟩, ⟨cH, ⟨cS, cN⟩, cX, cP⟩, cT, ⟨cp, cn, cm, cJ⟩, cSl, cPd⟩ := id hC
  have kn := cT.1.1
  have kh := cH.1
  obtain ⟨ho, ⟨r0, r1, r2⟩, ⟨k1, k2, k3⟩, ⟨n1, n2, n3⟩, hg⟩ := id cT.1
  obtain ⟨⟨t0, t1, t2⟩, ⟨t3, t4, t5⟩, tr, tg⟩ := id cT.2.1
  obtain ⟨b0, b1, b2, b3, b4, b5, br, bg⟩ := id cT.2.2.1
  have b4b := Ok4 cT.2.2.1
  have kp := cP.1
  obtain ⟨n9x, hn⟩ : ∃ n9x : Nat, (f 3).toNat = n9x := ⟨_, rfl⟩
  have kx9 := cX.1
  refine z_aload_n C dX6_test_0 rfl ?_
  refine z_gR C (ci := 6) (k := 0) rfl (by decide) rfl (by decide) wl_6 wq_1_16 (by decide) dX6_test_1 (by assumption) (by assumption) ?_
  refine z_iload_n C dX6_test_4 rfl ?_
  refine z_callVd C (ci := 4) rfl (by decide) (by assumption) (mX4_gaugeAt l G cT.1 cT.2.1 cT.2.2.1 hgg) (cwV 1 C.2.2.2.2.1 gv6_91 rfl rfl rfl hd_X4_gaugeAt ⟨Nat.le_of_ble_eq_true rfl, Nat.le_of_ble_eq_true rfl⟩) rfl rfl (Nat.le_of_ble_eq_true rfl) dX6_test_5 ⟨Nat.zero_le _, Nat.zero_le _⟩ ?_
  by_cases hq9 : 0 ≤ gg ∧ gg ≤ I (x + 1) 5 - 1
  · obtain ⟨n9, rfl⟩ := Int.eq_ofNat_of_zero_le (show 0 ≤ gg by omega)
    have kg9 := (hg n9 (by omega)).1
    have kr9 := (hg n9 (by omega)).2
    refine z_top (y := .ref ((x + 1) + 4 + n9)) (by rw [if_pos hq9]; rfl) ?_
    refine z_astore_n C dX6_test_8 (by decide) rfl ?_
    refine z_aload_n C dX6_test_9 rfl ?_
    refine z_nonnullR C (tgt := 15) dX6_test_10 (by decide) ?_
    have hyq : 0 ≤ (n9 : Int) ∧ (n9 : Int) ≤ f 5 - 1 := by omega
    simp only [Int.toNat_natCast] at hQ
    obtain ⟨g0, g1, g2, g3⟩ := tg n9 (by omega)
    obtain ⟨c0, c1, c2, c3, c4⟩ := bg n9 (by omega)
    refine z_iload_n C dX6_test_15 rfl ?_
    refine z_if_lt C (tgt := 24) dX6_test_16 (by decide) (by first | omega | exact b2i_r) (fun h16 => ?_) (fun h16 => ?_)
    · have hwn : ¬ (0 ≤ wh ∧ wh ≤ 3) := by omega
      refine z_bipush C dX6_test_24 (by decide) ?_
      exact z_iret2 C hQ rfl dX6_test_26 ⟨zr (by first | exact (if_neg hno).symm | exact ((if_pos hyq).trans (if_neg hwn)).symm | exact ((if_pos hyq).trans ((if_pos hwy).trans (if_pos h30))).symm | (rw [if_pos hyq, if_pos hwy, if_neg h3n]; first | (subst hv; rfl) | (subst hv; show _ = b2i (gTst f n9 (f (20 + 36 * n9)) ≤ f 2); first | exact (b2i_t (by omega)).symm | exact (b2i_f (by omega)).symm) | (rw [if_neg (by omega), if_neg (by omega), if_neg (by omega)]; omega))), by first | exact hCn | exact ⟨FrM.rfl, hC⟩⟩
    · refine z_iload_n C dX6_test_19 rfl ?_
      refine z_iconst C dX6_test_20 ?_
      refine z_icmp_le C (tgt := 27) dX6_test_21 (by decide) (by first | omega | exact b2i_r) (by first | omega | exact b2i_r) (fun h21 => ?_) (fun h21 => ?_)
      · have hwy : 0 ≤ wh ∧ wh ≤ 3 := by omega
        refine z_aload_n C dX6_test_27 rfl ?_
        refine z_gR C (ci := 6) (k := 0) rfl (by decide) rfl (by decide) wl_6 wq_1_16 (by decide) dX6_test_28 (by assumption) (by assumption) ?_
        refine z_gI C (ci := 4) (k := 3) rfl (by decide) rfl (by decide) wl_4 wq_21_12 rfl dX6_test_31 (by assumption) ?_
        refine z_if_ne C (tgt := 40) dX6_test_34 (by decide) (by first | omega | exact b2i_r) (fun h34 => ?_) (fun h34 => ?_)
        · have h3n : ¬ f 3 = 0 := by omega
          refine z_aload_n C dX6_test_40 rfl ?_
          refine z_gR C (ci := 6) (k := 3) rfl (by decide) rfl (by decide) wl_6 wq_2_1 (by decide) dX6_test_41 (by assumption) (by assumption) ?_
          refine z_aload_n C dX6_test_44 rfl ?_
          refine z_gR C (ci := 6) (k := 0) rfl (by decide) rfl (by decide) wl_6 wq_1_16 (by decide) dX6_test_45 (by assumption) (by assumption) ?_
          refine z_callVd C (ci := 5) rfl (by decide) (by assumption) (mX5_prepare l G cX cT.1 (by omega) cT.2.1 cT.2.2.1) (cwV 1 C.2.2.2.2.1 gv6_146 rfl rfl rfl hd_X5_prepare ⟨Nat.le_of_ble_eq_true rfl, Nat.le_of_ble_eq_true rfl⟩) rfl rfl (Nat.le_of_ble_eq_true rfl) dX6_test_48 ⟨Nat.zero_le _, Nat.zero_le _⟩ ?_
          have hTX := TX.pre (b := x + 84) cT.2.1 hn
          rw [hn]
          obtain ⟨J, hJe⟩ : ∃ J : MI, J = preI I (x + 84) (x + 1) n9x (f 0) (f 1) := ⟨_, rfl⟩
          rw [← hJe] at hTX ⊢
          have hJg : J (x + 1 + 4 + n9) = I (x + 1 + 4 + n9) := hTX.1 _ (by omega)
          refine z_aload_n C dX6_test_51 rfl ?_
          refine z_gR C (ci := 6) (k := 3) rfl (by decide) rfl (by decide) wl_6 wq_2_1 (by decide) dX6_test_52 (by assumption) (by assumption) ?_
          refine z_aload_n C dX6_test_55 rfl ?_
          refine z_aload_n C dX6_test_56 rfl ?_
          refine z_gI C (ci := 1) (k := 0) rfl (by decide) rfl (by decide) wl_1 wq_24_3 rfl dX6_test_57 (by assumption) ?_
          rw [hJg, g0]
          refine z_callVd C (ci := 5) rfl (by decide) (by assumption) (mX5_run l G cX kg9 (by omega) (by omega) hTX.2.1 (hTX.rng cT.2.2.1 hn) c0 (by rw [hJg, g1]; exact c1) (by rw [hJg, g2]; exact c2)) (cwV 2 C.2.2.2.2.1 gv6_152 rfl rfl rfl hd_X5_run ⟨Nat.le_of_ble_eq_true rfl, Nat.le_of_ble_eq_true rfl⟩) rfl rfl (Nat.le_of_ble_eq_true rfl) dX6_test_60 ⟨Nat.zero_le _, Nat.zero_le _⟩ ?_
          rw [hJg, g1, g2]
          have hgr := hTX.gr hn (by omega) n9 (f (20 + 36 * n9))
          have hws := hTX.ws hn n9 (f (20 + 36 * n9))
          have hTX2 := hTX.e_run (f (20 + 36 * n9)) (f (21 + 36 * n9)) (f (22 + 36 * n9)) (hnd (prX J (x + 84) n9x) (f (20 + 36 * n9)) (f (21 + 36 * n9)) (2 * n9x)) (rdX (prX J (x + 84) n9x) (f (20 + 36 * n9)) (f (21 + 36 * n9)) (f (22 + 36 * n9)) (J (x + 84 + 1)) (2 * n9x)) (grX (wrg (prX J (x + 84) n9x) (f (20 + 36 * n9)) (f (21 + 36 * n9)) (f (22 + 36 * n9))) (2 * n9x)) (wst (wrg (prX J (x + 84) n9x) (f (20 + 36 * n9)) (f (21 + 36 * n9)) (f (22 + 36 * n9))) (2 * n9x))
          obtain ⟨J2, hJ2e⟩ : ∃ J2 : MI, J2 = runM J (x + 84) (f (20 + 36 * n9)) (f (21 + 36 * n9)) (f (22 + 36 * n9)) (hnd (prX J (x + 84) n9x) (f (20 + 36 * n9)) (f (21 + 36 * n9)) (2 * n9x)) (rdX (prX J (x + 84) n9x) (f (20 + 36 * n9)) (f (21 + 36 * n9)) (f (22 + 36 * n9)) (J (x + 84 + 1)) (2 * n9x)) (grX (wrg (prX J (x + 84) n9x) (f (20 + 36 * n9)) (f (21 + 36 * n9)) (f (22 + 36 * n9))) (2 * n9x)) (wst (wrg (prX J (x + 84) n9x) (f (20 + 36 * n9)) (f (21 + 36 * n9)) (f (22 + 36 * n9))) (2 * n9x)) := ⟨_, rfl⟩
          have hg9 : J2 (x + 84) 2 = gTst f n9 (f (20 + 36 * n9)) := by rw [hJ2e, runM_b, st1_n (by omega), st1_s]; exact hgr
          have hw9 : J2 (x + 84) 3 = wTst f n9 (f (20 + 36 * n9)) := by rw [hJ2e, runM_b, st1_s]; exact hws
          rw [← hJ2e] at hTX2 ⊢
          have hR9 : ∀ a : Nat, a ≠ x + 86 → u2 R (x + 84 + 2) 4 none a = R a := fun a ha => u2_row (by omega)
          have hRx3 : u2 R (x + 84 + 2) 4 none x 3 = some (x + 84) := by rw [hR9 x (by omega)]; exact cr3
          have hRx0 : u2 R (x + 84 + 2) 4 none x 0 = some (x + 1) := by rw [hR9 x (by omega)]; exact cr0
          have hRt0 : u2 R (x + 84 + 2) 4 none (x + 1) 0 = some (x + 1 + 1) := by rw [hR9 (x + 1) (by omega)]; exact r0
          have hJt : J2 (x + 1 + 1) = I (x + 1 + 1) := hTX2.1 _ (by omega)
          have hCn := hC.trl hTX2.1 hR9
          refine z_iload_n C dX6_test_63 rfl ?_
          by_cases hs64 : wh < 0 ∨ 2 < wh
          · refine z_tout C (tgt := 133) dX6_test_64 (by omega) hs64 (by decide) ?_
            refine z_aload_n C dX6_test_133 rfl ?_
            refine z_gR C (ci := 6) (k := 3) rfl (by decide) rfl (by decide) wl_6 wq_2_1 (by decide) dX6_test_134 (by assumption) (by assumption) ?_
            refine z_gI C (ci := 5) (k := 1) rfl (by decide) rfl (by decide) wl_5 wq_24_6 rfl dX6_test_137 (by assumption) ?_
            rw [hTX2.2.1]
            exact z_iret2 C hQ rfl dX6_test_140 ⟨zr (by first | exact (if_neg hno).symm | exact ((if_pos hyq).trans (if_neg hwn)).symm | exact ((if_pos hyq).trans ((if_pos hwy).trans (if_pos h30))).symm | (rw [if_pos hyq, if_pos hwy, if_neg h3n]; first | (subst hv; rfl) | (subst hv; show _ = b2i (gTst f n9 (f (20 + 36 * n9)) ≤ f 2); first | exact (b2i_t (by omega)).symm | exact (b2i_f (by omega)).symm) | (rw [if_neg (by omega), if_neg (by omega), if_neg (by omega)]; omega))), by first | exact hCn | exact ⟨FrM.rfl, hC⟩⟩
          · rcases (show wh = 0 ∨ wh = 1 ∨ wh = 2 by omega) with hv | hv | hv
            · refine z_tin C (tgt := 92) 0 dX6_test_64 hv (by decide) (by decide) (by decide) rfl (by decide) ?_
              refine z_aload_n C dX6_test_92 rfl ?_
              refine z_gR C (ci := 6) (k := 3) rfl (by decide) rfl (by decide) wl_6 wq_2_1 (by decide) dX6_test_93 (by assumption) (by assumption) ?_
              refine z_gI C (ci := 5) (k := 2) rfl (by decide) rfl (by decide) wl_5 wq_24_4 rfl dX6_test_96 (by assumption) ?_
              rw [hg9]
              exact z_iret2 C hQ rfl dX6_test_99 ⟨zr (by first | exact (if_neg hno).symm | exact ((if_pos hyq).trans (if_neg hwn)).symm | exact ((if_pos hyq).trans ((if_pos hwy).trans (if_pos h30))).symm | (rw [if_pos hyq, if_pos hwy, if_neg h3n]; first | (subst hv; rfl) | (subst hv; show _ = b2i (gTst f n9 (f (20 + 36 * n9)) ≤ f 2); first | exact (b2i_t (by omega)).symm | exact (b2i_f (by omega)).symm) | (rw [if_neg (by omega), if_neg (by omega), if_neg (by omega)]; omega))), by first | exact hCn | exact ⟨FrM.rfl, hC⟩⟩
            · refine z_tin C (tgt := 100) 1 dX6_test_64 hv (by decide) (by decide) (by decide) rfl (by decide) ?_
              refine z_aload_n C dX6_test_100 rfl ?_
              refine z_gR C (ci := 6) (k := 3) rfl (by decide) rfl (by decide) wl_6 wq_2_1 (by decide) dX6_test_101 (by assumption) (by assumption) ?_
              refine z_gI C (ci := 5) (k := 2) rfl (by decide) rfl (by decide) wl_5 wq_24_4 rfl dX6_test_104 (by assumption) ?_
              rw [hg9]
              have hgt := gTst_rng cT.2.2.1 (by omega) (g := n9) (by omega) c0
              refine z_aload_n C dX6_test_107 rfl ?_
              refine z_gR C (ci := 6) (k := 0) rfl (by decide) rfl (by decide) wl_6 wq_1_16 (by decide) dX6_test_108 (by assumption) (by assumption) ?_
              refine z_gR C (ci := 4) (k := 0) rfl (by decide) rfl (by decide) wl_4 wq_21_15 (by decide) dX6_test_111 (by assumption) (by assumption) ?_
              refine z_iconst C dX6_test_114 ?_
              refine z_ialdk C (2) dX6_test_115 (by assumption) (by first | rfl | omega) (by omega) (by omega) ?_
              rw [hJt, t2]
              refine z_icmp_gt C (tgt := 123) dX6_test_116 (by decide) (by first | omega | exact b2i_r) (by first | omega | exact b2i_r) (fun h116 => ?_) (fun h116 => ?_)
              · refine z_iconst C dX6_test_123 ?_
                exact z_iret2 C hQ rfl dX6_test_124 ⟨zr (by first | exact (if_neg hno).symm | exact ((if_pos hyq).trans (if_neg hwn)).symm | exact ((if_pos hyq).trans ((if_pos hwy).trans (if_pos h30))).symm | (rw [if_pos hyq, if_pos hwy, if_neg h3n]; first | (subst hv; rfl) | (subst hv; show _ = b2i (gTst f n9 (f (20 + 36 * n9)) ≤ f 2); first | exact (b2i_t (by omega)).symm | exact (b2i_f (by omega)).symm) | (rw [if_neg (by omega), if_neg (by omega), if_neg (by omega)]; omega))), by first | exact hCn | exact ⟨FrM.rfl, hC⟩⟩
              · refine z_iconst C dX6_test_119 ?_
                refine z_goto C (tgt := 124) dX6_test_120 (by decide) ?_
                exact z_iret2 C hQ rfl dX6_test_124 ⟨zr (by first | exact (if_neg hno).symm | exact ((if_pos hyq).trans (if_neg hwn)).symm | exact ((if_pos hyq).trans ((if_pos hwy).trans (if_pos h30))).symm | (rw [if_pos hyq, if_pos hwy, if_neg h3n]; first | (subst hv; rfl) | (subst hv; show _ = b2i (gTst f n9 (f (20 + 36 * n9)) ≤ f 2); first | exact (b2i_t (by omega)).symm | exact (b2i_f (by omega)).symm) | (rw [if_neg (by omega), if_neg (by omega), if_neg (by omega)]; omega))), by first | exact hCn | exact ⟨FrM.rfl, hC⟩⟩
            · refine z_tin C (tgt := 125) 2 dX6_test_64 hv (by decide) (by decide) (by decide) rfl (by decide) ?_
              refine z_aload_n C dX6_test_125 rfl ?_
              refine z_gR C (ci := 6) (k := 3) rfl (by decide) rfl (by decide) wl_6 wq_2_1 (by decide) dX6_test_126 (by assumption) (by assumption) ?_
              refine z_gI C (ci := 5) (k := 3) rfl (by decide) rfl (by decide) wl_5 wq_24_5 rfl dX6_test_129 (by assumption) ?_
              rw [hw9]
              exact z_iret2 C hQ rfl dX6_test_132 ⟨zr (by first | exact (if_neg hno).symm | exact ((if_pos hyq).trans (if_neg hwn)).symm | exact ((if_pos hyq).trans ((if_pos hwy).trans (if_pos h30))).symm | (rw [if_pos hyq, if_pos hwy, if_neg h3n]; first | (subst hv; rfl) | (subst hv; show _ = b2i (gTst f n9 (f (20 + 36 * n9)) ≤ f 2); first | exact (b2i_t (by omega)).symm | exact (b2i_f (by omega)).symm) | (rw [if_neg (by omega), if_neg (by omega), if_neg (by omega)]; omega))), by first | exact hCn | exact ⟨FrM.rfl, hC⟩⟩
        · have h30 : f 3 = 0 := by omega
          refine z_bipush C dX6_test_37 (by decide) ?_
          exact z_iret2 C hQ rfl dX6_test_39 ⟨zr (by first | exact (if_neg hno).symm | exact ((if_pos hyq).trans (if_neg hwn)).symm | exact ((if_pos hyq).trans ((if_pos hwy).trans (if_pos h30))).symm | (rw [if_pos hyq, if_pos hwy, if_neg h3n]; first | (subst hv; rfl) | (subst hv; show _ = b2i (gTst f n9 (f (20 + 36 * n9)) ≤ f 2); first | exact (b2i_t (by omega)).symm | exact (b2i_f (by omega)).symm) | (rw [if_neg (by omega), if_neg (by omega), if_neg (by omega)]; omega))), by first | exact hCn | exact ⟨FrM.rfl, hC⟩⟩
      · have hwn : ¬ (0 ≤ wh ∧ wh ≤ 3) := by omega
        refine z_bipush C dX6_test_24 (by decide) ?_
        exact z_iret2 C hQ rfl dX6_test_26 ⟨zr (by first | exact (if_neg hno).symm | exact ((if_pos hyq).trans (if_neg hwn)).symm | exact ((if_pos hyq).trans ((if_pos hwy).trans (if_pos h30))).symm | (rw [if_pos hyq, if_pos hwy, if_neg h3n]; first | (subst hv; rfl) | (subst hv; show _ = b2i (gTst f n9 (f (20 + 36 * n9)) ≤ f 2); first | exact (b2i_t (by omega)).symm | exact (b2i_f (by omega)).symm) | (rw [if_neg (by omega), if_neg (by omega), if_neg (by omega)]; omega))), by first | exact hCn | exact ⟨FrM.rfl, hC⟩⟩
  · refine z_top (y := .null) (by rw [if_neg hq9]; rfl) ?_
    refine z_astoreN_n C dX6_test_8 (by decide) rfl ?_
    refine z_aloadN_n C dX6_test_9 rfl ?_
    refine z_nonnullN C dX6_test_10 ?_
    have hno : ¬ (0 ≤ gg ∧ gg ≤ f 5 - 1) := by omega
    refine z_iconst C dX6_test_13 ?_
    exact z_iret2 C hQ rfl dX6_test_14 ⟨zr (by first | exact (if_neg hno).symm | exact ((if_pos hyq).trans (if_neg hwn)).symm | exact ((if_pos hyq).trans ((if_pos hwy).trans (if_pos h30))).symm | (rw [if_pos hyq, if_pos hwy, if_neg h3n]; first | (subst hv; rfl) | (subst hv; show _ = b2i (gTst f n9 (f (20 + 36 * n9)) ≤ f 2); first | exact (b2i_t (by omega)).symm | exact (b2i_f (by omega)).symm) | (rw [if_neg (by omega), if_neg (by omega), if_neg (by omega)]; omega))), by first | exact hCn | exact ⟨FrM.rfl, hC⟩⟩

set_option maxHeartbeats 4000000 in
set_option maxRecDepth 100000 in
theorem mX6_bestError (l : Launch) (G : GG) {z : Nat} {K N : Nat → Nat} {I : MI} {R : MR} {x : Nat} {f h s0 v0 P : Nat → Int} {n len : Int} (hC : CI G x z K N I R f h s0 v0 P n len) (hx : x + 100 ≤ z) {gg wh : Int} (hgg : -2147483648 ≤ gg ∧ gg < 2147483648) (hwh : -2147483648 ≤ wh ∧ wh < 2147483648) : Con l G yX6_bestError (Cond.code yX6_bestError cX6_bestError 7 (some .int) :: wsL_law) ⟨4, 0, 0, 88⟩ 0 0 [.ref x, .int (zI gg), .int (zI wh)] z K N I R (fun r z' K' N' I' R' => r = some (.int (zI (if 0 ≤ gg ∧ gg ≤ f 5 - 1 then (if 0 ≤ wh ∧ wh ≤ 1 then (if f 3 = 0 then -5 else (if wh = 0 then beB (beW f gg.toNat) 199 + 100 else beL (beW f gg.toNat) 199)) else -2) else -1))) ∧ CPn G x z K N I R f h s0 v0 P n len z' K' N' I' R') := by
  refine Con.of (own := RX6) (cc := cX6_bestError) (maxL := 7) (ret := (some .int)) (by decide +kernel) rfl rfl (Nat.le_of_ble_eq_true rfl) (by decide) rfl ?_
  intro p e9 s mt args below meth c Q hin hQ C
  obtain ⟨⟨cx, cr0, cr1, cr2, cr3, cr4⟩, ⟨cH, ⟨cS, cN⟩, cX, cP⟩, cT, ⟨cp, cn, cm, cJ⟩, cSl, cPd⟩ := id hC
  have kn := cT.1.1
  have kh := cH.1
  obtain ⟨ho, ⟨r0, r1, r2⟩, ⟨k1, k2, k3⟩, ⟨n1, n2, n3⟩, hg⟩ := id cT.1
  obtain ⟨⟨t0, t1, t2⟩, ⟨t3, t4, t5⟩, tr, tg⟩ := id cT.2.1
  obtain ⟨b0, b1, b2, b3, b4, b5, br, bg⟩ := id cT.2.2.1
  have b4b := Ok4 cT.2.2.1
  have kp := cP.1
  obtain ⟨n9x, hn⟩ : ∃ n9x : Nat, (f 3).toNat = n9x := ⟨_, rfl⟩
  have kx9 := cX.1
  have hloop : ∀ (n9 : Nat), (n9 : Int) < f 5 → ¬ f 3 = 0 → gg = (n9 : Int) → 0 ≤ wh ∧ wh ≤ 1 → ∀ (q : Nat) (i : Nat) (J : MI) (R9 : MR), i ≤ 199 → 199 - i < q → TX I J (x + 84) n9x f → (∀ a : Nat, a ≠ x + 86 → R9 a = R a) → Zq p l e9 ⟨4, 0, 0, 88⟩ s mt args below meth c G 7 Q 0 0 z K N J R9 63 [(0, .ref x), (1, .int (zI (n9 : Int))), (2, .int (zI wh)), (3, .ref (x + 1 + 4 + n9)), (4, .int (zI (bcB (beW f n9) i))), (5, .int (zI (bcL (beW f n9) i))), (6, .int (zI ((i : Int) - 99)))] [] := by
    intro n9 hn9 h3n hgg9 hwy q
    subst hgg9
    simp only [Int.toNat_natCast] at hQ
    have hyq : 0 ≤ (n9 : Int) ∧ (n9 : Int) ≤ f 5 - 1 := by omega
    have kg9 := (hg n9 (by omega)).1
    obtain ⟨g0, g1, g2, g3⟩ := tg n9 (by omega)
    obtain ⟨c0, c1, c2, c3, c4⟩ := bg n9 (by omega)
    have hw : ∀ i : Nat, i < 199 → 0 ≤ beW f n9 i ∧ beW f n9 i ≤ 16000198 := fun i hi => gTst_rng cT.2.2.1 (by omega) hn9 (by omega)
    induction q with
    | zero => intro i J R9 h1 h2; exact absurd h2 (by omega)
    | succ q ih =>
      intro i J R9 h1 h2 hTX hR9
      have hl := bcL_r hw i (by omega)
      have hJg : J (x + 1 + 4 + n9) = I (x + 1 + 4 + n9) := hTX.1 _ (by omega)
      have hX9 : ShX G z K N R9 (x + 84) := cX.mono (Nat.le_refl z) (fun _ _ _ => ⟨rfl, rfl⟩) (hR9 _ (by omega))
      have hRx3 : R9 x 3 = some (x + 84) := by rw [hR9 x (by omega)]; exact cr3
      refine z_iload C dX6_bestError_63 rfl ?_
      refine z_bipush C dX6_bestError_65 (by decide) ?_
      refine z_icmp_gt C (tgt := 111) dX6_bestError_67 (by decide) (by first | omega | exact b2i_r) (by first | omega | exact b2i_r) (fun h67 => ?_) (fun h67 => ?_)
      · obtain rfl : i = 199 := by omega
        obtain ⟨be1, be2⟩ := bc_be hw 198 (by omega)
        rw [be1, be2]
        have hCn := hC.trl hTX.1 hR9
        refine z_iload_n C dX6_bestError_111 rfl ?_
        refine z_if_ne C (tgt := 123) dX6_bestError_112 (by decide) (by first | omega | exact b2i_r) (fun h112 => ?_) (fun h112 => ?_)
        · refine z_iload C dX6_bestError_123 rfl ?_
          exact z_iret2 C hQ rfl dX6_bestError_125 ⟨zr (by rw [if_pos hyq, if_pos hwy, if_neg h3n]; first | (rw [if_pos (by omega)]; done) | (rw [if_neg (by omega)]; done)), hCn⟩
        · refine z_iload C dX6_bestError_115 rfl ?_
          refine z_bipush C dX6_bestError_117 (by decide) ?_
          refine z_iadd C dX6_bestError_119 ?_
          refine z_goto C (tgt := 125) dX6_bestError_120 (by decide) ?_
          exact z_iret2 C hQ rfl dX6_bestError_125 ⟨zr (by rw [if_pos hyq, if_pos hwy, if_neg h3n]; first | (rw [if_pos (by omega)]; done) | (rw [if_neg (by omega)]; done)), hCn⟩
      · refine z_aload_n C dX6_bestError_70 rfl ?_
        refine z_gR C (ci := 6) (k := 3) rfl (by decide) rfl (by decide) wl_6 wq_2_1 (by decide) dX6_bestError_71 (by assumption) (by assumption) ?_
        refine z_aload_n C dX6_bestError_74 rfl ?_
        refine z_iload C dX6_bestError_75 rfl ?_
        refine z_callVd C (ci := 5) rfl (by decide) (by assumption) (mX5_run l G hX9 kg9 (by omega) (by omega) hTX.2.1 (hTX.rng cT.2.2.1 hn) (er := (i : Int) - 99) (by omega) (by rw [hJg, g1]; exact c1) (by rw [hJg, g2]; exact c2)) (cwV 2 C.2.2.2.2.1 gv6_152 rfl rfl rfl hd_X5_run ⟨Nat.le_of_ble_eq_true rfl, Nat.le_of_ble_eq_true rfl⟩) rfl rfl (Nat.le_of_ble_eq_true rfl) dX6_bestError_77 ⟨Nat.zero_le _, Nat.zero_le _⟩ ?_
        rw [hJg, g1, g2]
        have hgr := hTX.gr hn (by omega) n9 ((i : Int) - 99)
        have hws := hTX.ws hn n9 ((i : Int) - 99)
        have hTX2 := hTX.e_run ((i : Int) - 99) (f (21 + 36 * n9)) (f (22 + 36 * n9)) (hnd (prX J (x + 84) n9x) ((i : Int) - 99) (f (21 + 36 * n9)) (2 * n9x)) (rdX (prX J (x + 84) n9x) ((i : Int) - 99) (f (21 + 36 * n9)) (f (22 + 36 * n9)) (J (x + 84 + 1)) (2 * n9x)) (grX (wrg (prX J (x + 84) n9x) ((i : Int) - 99) (f (21 + 36 * n9)) (f (22 + 36 * n9))) (2 * n9x)) (wst (wrg (prX J (x + 84) n9x) ((i : Int) - 99) (f (21 + 36 * n9)) (f (22 + 36 * n9))) (2 * n9x))
        obtain ⟨J2, hJ2e⟩ : ∃ J2 : MI, J2 = runM J (x + 84) ((i : Int) - 99) (f (21 + 36 * n9)) (f (22 + 36 * n9)) (hnd (prX J (x + 84) n9x) ((i : Int) - 99) (f (21 + 36 * n9)) (2 * n9x)) (rdX (prX J (x + 84) n9x) ((i : Int) - 99) (f (21 + 36 * n9)) (f (22 + 36 * n9)) (J (x + 84 + 1)) (2 * n9x)) (grX (wrg (prX J (x + 84) n9x) ((i : Int) - 99) (f (21 + 36 * n9)) (f (22 + 36 * n9))) (2 * n9x)) (wst (wrg (prX J (x + 84) n9x) ((i : Int) - 99) (f (21 + 36 * n9)) (f (22 + 36 * n9))) (2 * n9x)) := ⟨_, rfl⟩
        have hg9 : J2 (x + 84) 2 = gTst f n9 ((i : Int) - 99) := by rw [hJ2e, runM_b, st1_n (by omega), st1_s]; exact hgr
        have hw9 : J2 (x + 84) 3 = wTst f n9 ((i : Int) - 99) := by rw [hJ2e, runM_b, st1_s]; exact hws
        rw [← hJ2e] at hTX2 ⊢
        have hRx3b : u2 R9 (x + 84 + 2) 4 none x 3 = some (x + 84) := by rw [u2_row (by omega)]; exact hRx3
        have hwi := hw i (by omega)
        have hg8 : J2 (x + 84) 2 = beW f n9 i := hg9
        refine z_aload_n C dX6_bestError_80 rfl ?_
        refine z_gR C (ci := 6) (k := 3) rfl (by decide) rfl (by decide) wl_6 wq_2_1 (by decide) dX6_bestError_81 (by assumption) (by assumption) ?_
        refine z_gI C (ci := 5) (k := 2) rfl (by decide) rfl (by decide) wl_5 wq_24_4 rfl dX6_bestError_84 (by assumption) ?_
        rw [hg8]
        refine z_iload C dX6_bestError_87 rfl ?_
        refine z_icmp_ge C (tgt := 105) dX6_bestError_89 (by decide) (by first | omega | exact b2i_r) (by first | omega | exact b2i_r) (fun h89 => ?_) (fun h89 => ?_)
        · refine z_iinc C dX6_bestError_105 rfl (by decide) rfl ?_
          refine z_goto C (tgt := 63) dX6_bestError_108 (by decide) ?_
          have hnx := ih (i + 1) J2 (u2 R9 (x + 84 + 2) 4 none) (by omega) (by omega) hTX2 (fun a ha => by rw [u2_row (by omega)]; exact hR9 a ha)
          rw [show ((i + 1 : Nat) : Int) - 99 = (i : Int) - 99 + 1 by omega, bcL_s, bcB_s] at hnx
          first
          | (rw [if_pos (by omega), if_pos (by omega)] at hnx; exact z_sub [0, 1, 2, 3, 4, 5, 6] rfl rfl hnx)
          | (rw [if_neg (by omega), if_neg (by omega)] at hnx; exact z_sub [0, 1, 2, 3, 4, 5, 6] rfl rfl hnx)
        · refine z_iload C dX6_bestError_92 rfl ?_
          refine z_istore C dX6_bestError_94 (by decide) rfl ?_
          refine z_aload_n C dX6_bestError_96 rfl ?_
          refine z_gR C (ci := 6) (k := 3) rfl (by decide) rfl (by decide) wl_6 wq_2_1 (by decide) dX6_bestError_97 (by assumption) (by assumption) ?_
          refine z_gI C (ci := 5) (k := 2) rfl (by decide) rfl (by decide) wl_5 wq_24_4 rfl dX6_bestError_100 (by assumption) ?_
          rw [hg8]
          refine z_istore C dX6_bestError_103 (by decide) rfl ?_
          refine z_iinc C dX6_bestError_105 rfl (by decide) rfl ?_
          refine z_goto C (tgt := 63) dX6_bestError_108 (by decide) ?_
          have hnx := ih (i + 1) J2 (u2 R9 (x + 84 + 2) 4 none) (by omega) (by omega) hTX2 (fun a ha => by rw [u2_row (by omega)]; exact hR9 a ha)
          rw [show ((i + 1 : Nat) : Int) - 99 = (i : Int) - 99 + 1 by omega, bcL_s, bcB_s] at hnx
          first
          | (rw [if_pos (by omega), if_pos (by omega)] at hnx; exact z_sub [0, 1, 2, 3, 4, 5, 6] rfl rfl hnx)
          | (rw [if_neg (by omega), if_neg (by omega)] at hnx; exact z_sub [0, 1, 2, 3, 4, 5, 6] rfl rfl hnx)
  refine z_aload_n C dX6_bestError_0 rfl ?_
  refine z_gR C (ci := 6) (k := 0) rfl (by decide) rfl (by decide) wl_6 wq_1_16 (by decide) dX6_bestError_1 (by assumption) (by assumption) ?_
  refine z_iload_n C dX6_bestError_4 rfl ?_
  refine z_callVd C (ci := 4) rfl (by decide) (by assumption) (mX4_gaugeAt l G cT.1 cT.2.1 cT.2.2.1 hgg) (cwV 1 C.2.2.2.2.1 gv6_91 rfl rfl rfl hd_X4_gaugeAt ⟨Nat.le_of_ble_eq_true rfl, Nat.le_of_ble_eq_true rfl⟩) rfl rfl (Nat.le_of_ble_eq_true rfl) dX6_bestError_5 ⟨Nat.zero_le _, Nat.zero_le _⟩ ?_
  by_cases hq9 : 0 ≤ gg ∧ gg ≤ I (x + 1) 5 - 1
  · obtain ⟨n9, rfl⟩ := Int.eq_ofNat_of_zero_le (show 0 ≤ gg by omega)
    have kg9 := (hg n9 (by omega)).1
    have kr9 := (hg n9 (by omega)).2
    refine z_top (y := .ref ((x + 1) + 4 + n9)) (by rw [if_pos hq9]; rfl) ?_
    refine z_astore_n C dX6_bestError_8 (by decide) rfl ?_
    refine z_aload_n C dX6_bestError_9 rfl ?_
    refine z_nonnullR C (tgt := 15) dX6_bestError_10 (by decide) ?_
    have hyq : 0 ≤ (n9 : Int) ∧ (n9 : Int) ≤ f 5 - 1 := by omega
    obtain ⟨g0, g1, g2, g3⟩ := tg n9 (by omega)
    obtain ⟨c0, c1, c2, c3, c4⟩ := bg n9 (by omega)
    refine z_iload_n C dX6_bestError_15 rfl ?_
    refine z_if_lt C (tgt := 24) dX6_bestError_16 (by decide) (by first | omega | exact b2i_r) (fun h16 => ?_) (fun h16 => ?_)
    · have hwn : ¬ (0 ≤ wh ∧ wh ≤ 1) := by omega
      refine z_bipush C dX6_bestError_24 (by decide) ?_
      exact z_iret2 C hQ rfl dX6_bestError_26 ⟨zr (by first | exact (if_neg hno).symm | exact ((if_pos hyq).trans (if_neg hwn)).symm | exact ((if_pos hyq).trans ((if_pos hwy).trans (if_pos h30))).symm), ⟨FrM.rfl, hC⟩⟩
    · refine z_iload_n C dX6_bestError_19 rfl ?_
      refine z_iconst C dX6_bestError_20 ?_
      refine z_icmp_le C (tgt := 27) dX6_bestError_21 (by decide) (by first | omega | exact b2i_r) (by first | omega | exact b2i_r) (fun h21 => ?_) (fun h21 => ?_)
      · have hwy : 0 ≤ wh ∧ wh ≤ 1 := by omega
        refine z_aload_n C dX6_bestError_27 rfl ?_
        refine z_gR C (ci := 6) (k := 0) rfl (by decide) rfl (by decide) wl_6 wq_1_16 (by decide) dX6_bestError_28 (by assumption) (by assumption) ?_
        refine z_gI C (ci := 4) (k := 3) rfl (by decide) rfl (by decide) wl_4 wq_21_12 rfl dX6_bestError_31 (by assumption) ?_
        refine z_if_ne C (tgt := 40) dX6_bestError_34 (by decide) (by first | omega | exact b2i_r) (fun h34 => ?_) (fun h34 => ?_)
        · have h3n : ¬ f 3 = 0 := by omega
          refine z_aload_n C dX6_bestError_40 rfl ?_
          refine z_gR C (ci := 6) (k := 3) rfl (by decide) rfl (by decide) wl_6 wq_2_1 (by decide) dX6_bestError_41 (by assumption) (by assumption) ?_
          refine z_aload_n C dX6_bestError_44 rfl ?_
          refine z_gR C (ci := 6) (k := 0) rfl (by decide) rfl (by decide) wl_6 wq_1_16 (by decide) dX6_bestError_45 (by assumption) (by assumption) ?_
          refine z_callVd C (ci := 5) rfl (by decide) (by assumption) (mX5_prepare l G cX cT.1 (by omega) cT.2.1 cT.2.2.1) (cwV 1 C.2.2.2.2.1 gv6_146 rfl rfl rfl hd_X5_prepare ⟨Nat.le_of_ble_eq_true rfl, Nat.le_of_ble_eq_true rfl⟩) rfl rfl (Nat.le_of_ble_eq_true rfl) dX6_bestError_48 ⟨Nat.zero_le _, Nat.zero_le _⟩ ?_
          have hTX := TX.pre (b := x + 84) cT.2.1 hn
          rw [hn]
          obtain ⟨J, hJe⟩ : ∃ J : MI, J = preI I (x + 84) (x + 1) n9x (f 0) (f 1) := ⟨_, rfl⟩
          rw [← hJe] at hTX ⊢
          have hJg : J (x + 1 + 4 + n9) = I (x + 1 + 4 + n9) := hTX.1 _ (by omega)
          refine z_bipush C dX6_bestError_51 (by decide) ?_
          refine z_istore C dX6_bestError_53 (by decide) rfl ?_
          refine z_ldc C (n := 2147483647) dX6_bestError_55 wq_24_17 ?_
          refine z_istore C dX6_bestError_57 (by decide) rfl ?_
          refine z_bipush C dX6_bestError_59 (by decide) ?_
          refine z_istore C dX6_bestError_61 (by decide) rfl ?_
          refine z_conv (lv' := [(0, .ref x), (1, .int (zI (n9 : Int))), (2, .int (zI wh)), (3, .ref (x + 1 + 4 + n9)), (4, .int (zI (bcB (beW f n9) 0))), (5, .int (zI (bcL (beW f n9) 0))), (6, .int (zI (((0 : Nat) : Int) - 99)))]) rfl rfl rfl rfl ?_
          exact hloop n9 (by omega) h3n rfl hwy 200 0 J R (by omega) (by omega) hTX (fun _ _ => rfl)
        · have h30 : f 3 = 0 := by omega
          refine z_bipush C dX6_bestError_37 (by decide) ?_
          exact z_iret2 C hQ rfl dX6_bestError_39 ⟨zr (by first | exact (if_neg hno).symm | exact ((if_pos hyq).trans (if_neg hwn)).symm | exact ((if_pos hyq).trans ((if_pos hwy).trans (if_pos h30))).symm), ⟨FrM.rfl, hC⟩⟩
      · have hwn : ¬ (0 ≤ wh ∧ wh ≤ 1) := by omega
        refine z_bipush C dX6_bestError_24 (by decide) ?_
        exact z_iret2 C hQ rfl dX6_bestError_26 ⟨zr (by first | exact (if_neg hno).symm | exact ((if_pos hyq).trans (if_neg hwn)).symm | exact ((if_pos hyq).trans ((if_pos hwy).trans (if_pos h30))).symm), ⟨FrM.rfl, hC⟩⟩
  · refine z_top (y := .null) (by rw [if_neg hq9]; rfl) ?_
    refine z_astoreN_n C dX6_bestError_8 (by decide) rfl ?_
    refine z_aloadN_n C dX6_bestError_9 rfl ?_
    refine z_nonnullN C dX6_bestError_10 ?_
    have hno : ¬ (0 ≤ gg ∧ gg ≤ f 5 - 1) := by omega
    refine z_iconst C dX6_bestError_13 ?_
    exact z_iret2 C hQ rfl dX6_bestError_14 ⟨zr (by first | exact (if_neg hno).symm | exact ((if_pos hyq).trans (if_neg hwn)).symm | exact ((if_pos hyq).trans ((if_pos hwy).trans (if_pos h30))).symm), ⟨FrM.rfl, hC⟩⟩

