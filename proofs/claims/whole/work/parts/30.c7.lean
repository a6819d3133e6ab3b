theorem TN.keep {I I2 : MI} {t : Nat} {f : Nat → Int} (h : TN I t f) (hk : ∀ a : Nat, t ≤ a → a < t + 10 → I2 a = I a) (h5 : f 5 ≤ 6) : TN I2 t f := by
  obtain ⟨⟨a, b, c⟩, ⟨d, e, k⟩, m, n⟩ := h
  have e0 := hk t (by omega) (by omega)
  have e1 := hk (t + 1) (by omega) (by omega)
  have e2 := hk (t + 2) (by omega) (by omega)
  unfold TN
  rw [e0, e1, e2]
  exact ⟨⟨a, b, c⟩, ⟨d, e, k⟩, m, fun g hg => by rw [hk (t + 4 + g) (by omega) (by omega)]; exact n g hg⟩
/-- the trial at b, what is its own behind it -/
def ShX (G : GG) (z : Nat) (K N : Nat → Nat) (R : MR) (b : Nat) : Prop :=
  zK G z K b 5 ∧ (R b 0 = some (b + 1) ∧ R b 4 = some (b + 2) ∧ R b 5 = some (b + 3) ∧ R b 6 = some (b + 4)) ∧ (zK G z K (b + 1) 9 ∧ zK G z K (b + 2) 1 ∧ zK G z K (b + 3) 9 ∧ zK G z K (b + 4) 9) ∧ N (b + 1) = 28 ∧ N (b + 3) = 14 ∧ N (b + 4) = 15
def prR (S : Nat → Int) (air area : Int) (n : Nat) (old : Nat → Int) : Nat → Int := fun j => if j < n then prs (100 + smG S j) air area else old j
theorem prR_0 (S : Nat → Int) (air area : Int) (old : Nat → Int) : st1 old 0 (prs 100 air area) = prR S air area 1 old := by
  funext j
  unfold st1 prR
  by_cases h : j = 0
  · subst h; rw [if_pos rfl, if_pos (by omega)]; rfl
  · rw [if_neg h, if_neg (by omega)]
theorem prR_s (S : Nat → Int) (air area : Int) (n : Nat) (old : Nat → Int) : st1 (prR S air area n old) n (prs (100 + smG S n) air area) = prR S air area (n + 1) old := by
  funext j
  unfold st1 prR
  by_cases h : j = n
  · subst h; rw [if_pos rfl, if_pos (by omega)]
  · rw [if_neg h]
    by_cases h2 : j < n
    · rw [if_pos h2, if_pos (by omega)]
    · rw [if_neg h2, if_neg (by omega)]
theorem smG_rng {g : Nat → Int} : ∀ n : Nat, (∀ j : Nat, j < n → 0 ≤ g j ∧ g j ≤ 9999) → 0 ≤ smG g n ∧ smG g n ≤ 9999 * n
  | 0, _ => by simp [smG]
  | n + 1, h => by
    have := smG_rng n fun j hj => h j (by omega)
    have := h n (by omega)
    rw [smG_s]; omega
def preI (I : MI) (b t n : Nat) (air area : Int) : MI := u2 (va_up (va_up I (b + 3) (srtR (I (t + 2)) n (I (b + 3)) n)) (b + 4) (prR (srtR (I (t + 2)) n (I (b + 3)) n) air area (n + 1) (I (b + 4)))) b 1 (2 * (n : Int))
set_option maxHeartbeats 4000000 in
set_option maxRecDepth 100000 in
theorem mX5_prepare (l : Launch) (G : GG) {z : Nat} {K N : Nat → Nat} {I : MI} {R : MR} {b t : Nat} (hX : ShX G z K N R b) (hM : ShT G z K N R t) (hd : t + 10 ≤ b ∨ b + 5 ≤ t) {f : Nat → Int} (hV : TN I t f) (hO : Ok f) : Cod l G yX5_prepare (Cond.code yX5_prepare cX5_prepare 5 none :: wsL_law) ⟨3, 0, 0, 64⟩ [.ref b, .ref t] z K N I R none (preI I b t (f 3).toNat (f 0) (f 1)) R := by
  refine Con.of (own := RX5) (cc := cX5_prepare) (maxL := 5) (ret := none) (by decide +kernel) rfl rfl (Nat.le_of_ble_eq_true rfl) (by decide) rfl ?_
  intro p e9 s mt args below meth c Q hin hQ C
  obtain ⟨xo, ⟨x0, x4, x5, x6⟩, ⟨y1, y2, y3, y4⟩, w1, w3, w4⟩ := id hX
  obtain ⟨ho, ⟨r0, r1, r2⟩, ⟨k1, k2, k3⟩, ⟨n1, n2, n3⟩, hg⟩ := id hM
  obtain ⟨⟨v0, v1, v2⟩, ⟨v3, v4, v5⟩, vr, vg⟩ := id hV
  obtain ⟨b0, b1, b2, b3, b4, b5, br, bg⟩ := id hO
  have b4b := Ok4 hO
  obtain ⟨n, hn⟩ : ∃ n : Nat, (f 3).toNat = n := ⟨_, rfl⟩
  rw [hn] at hQ
  have hn3 : I t 3 = (n : Int) := by omega
  have hn14 : n ≤ 14 := by omega
  have hSR : ∀ j : Nat, j < n → 0 ≤ srtR (I (t + 2)) n (I (b + 3)) n j ∧ srtR (I (t + 2)) n (I (b + 3)) n j ≤ 9999 := fun j hj => by
    rw [srtR_at _ _ hj]
    have h9 := ordC_lt (I (t + 2)) n j hj
    rw [vr _ (by omega)]
    have := br (ordC (I (t + 2)) n j) (by omega)
    omega
  have hloop2 : ∀ (q i : Nat), i ≤ n → n - i < q → Zq p l e9 ⟨3, 0, 0, 64⟩ s mt args below meth c G 5 Q 0 0 z K N (va_up (va_up I (b + 3) (srtR (I (t + 2)) n (I (b + 3)) n)) (b + 4) (prR (srtR (I (t + 2)) n (I (b + 3)) n) (f 0) (f 1) (i + 1) (I (b + 4)))) R 57 [(0, .ref b), (1, .ref t), (2, .int (zI (n : Int))), (3, .int (zI (100 + smG (srtR (I (t + 2)) n (I (b + 3)) n) i))), (4, .int (zI (i : Int)))] [] := by
    intro q
    induction q with
    | zero => intro i h1 h2; exact absurd h2 (by omega)
    | succ q ih =>
      intro i h1 h2
      have hV2 : TN (va_up (va_up I (b + 3) (srtR (I (t + 2)) n (I (b + 3)) n)) (b + 4) (prR (srtR (I (t + 2)) n (I (b + 3)) n) (f 0) (f 1) (i + 1) (I (b + 4)))) t f := hV.keep (fun a a1 a2 => by rw [va_up_n (by omega), va_up_n (by omega)]) b5.2
      have hsm := smG_rng (g := (srtR (I (t + 2)) n (I (b + 3)) n)) i fun j hj => hSR j (by omega)
      refine z_iload C dX5_prepare_57 rfl ?_
      refine z_iload_n C dX5_prepare_59 rfl ?_
      refine z_icmp_ge C (tgt := 99) dX5_prepare_60 (by decide) (by first | omega | exact b2i_r) (by first | omega | exact b2i_r) (fun h60 => ?_) (fun h60 => ?_)
      · refine z_aload_n C dX5_prepare_99 rfl ?_
        refine z_iconst C dX5_prepare_100 ?_
        refine z_iload_n C dX5_prepare_101 rfl ?_
        refine z_imul C dX5_prepare_102 ?_
        refine z_pI C (ci := 5) (k := 1) rfl (by decide) rfl (by decide) tyX5_ok nmX5 wl_5 wq_16_22 rfl (Or.inl rfl) dX5_prepare_103 (by assumption) ?_
        exact z_vret2 C hQ rfl dX5_prepare_106 ⟨rfl, rfl, rfl, rfl, by rw [show i = n by omega]; rfl, rfl⟩
      · have hsi := hSR i (by omega)
        have hs2 : smG (srtR (I (t + 2)) n (I (b + 3)) n) (i + 1) = smG (srtR (I (t + 2)) n (I (b + 3)) n) i + (srtR (I (t + 2)) n (I (b + 3)) n) i := smG_s _ _
        refine z_iload_n C dX5_prepare_63 rfl ?_
        refine z_aload_n C dX5_prepare_64 rfl ?_
        refine z_gR C (ci := 5) (k := 5) rfl (by decide) rfl (by decide) wl_5 wq_3_15 (by decide) dX5_prepare_65 (by assumption) (by assumption) ?_
        refine z_iload C dX5_prepare_68 rfl ?_
        refine z_ialdk C (i) dX5_prepare_70 (by assumption) (by first | rfl | omega) (by omega) (by omega) ?_
        rw [va_up_n (show b + 3 ≠ b + 4 by omega), va_up_s]
        refine z_iadd C dX5_prepare_71 ?_
        rw [show 100 + smG (srtR (I (t + 2)) n (I (b + 3)) n) i + (srtR (I (t + 2)) n (I (b + 3)) n) i = 100 + smG (srtR (I (t + 2)) n (I (b + 3)) n) (i + 1) by omega]
        refine z_istore_n C dX5_prepare_72 (by decide) rfl ?_
        refine z_aload_n C dX5_prepare_73 rfl ?_
        refine z_gR C (ci := 5) (k := 6) rfl (by decide) rfl (by decide) wl_5 wq_3_16 (by decide) dX5_prepare_74 (by assumption) (by assumption) ?_
        refine z_iload C dX5_prepare_77 rfl ?_
        refine z_iconst C dX5_prepare_79 ?_
        refine z_iadd C dX5_prepare_80 ?_
        refine z_aload_n C dX5_prepare_81 rfl ?_
        refine z_iload_n C dX5_prepare_82 rfl ?_
        refine z_aload_n C dX5_prepare_83 rfl ?_
        refine z_gR C (ci := 4) (k := 0) rfl (by decide) rfl (by decide) wl_4 wq_16_21 (by decide) dX5_prepare_84 (by assumption) (by assumption) ?_
        refine z_iconst C dX5_prepare_87 ?_
        refine z_ialdk C (0) dX5_prepare_88 (by assumption) (by first | rfl | omega) (by omega) (by omega) ?_
        rw [hV2.1.1]
        refine z_callVd C (ci := 4) rfl (by decide) (by first | assumption | exact hM.1) (mX4_pressureOf l G hM hV2 hO (by omega) b0) (cwV 2 C.2.2.2.2.1 gv5_44 rfl rfl rfl hd_X4_pressureOf ⟨Nat.le_of_ble_eq_true rfl, Nat.le_of_ble_eq_true rfl⟩) rfl rfl (Nat.le_of_ble_eq_true rfl) dX5_prepare_89 ⟨Nat.zero_le _, Nat.zero_le _⟩ ?_
        refine z_iastk C (i + 1) dX5_prepare_92 (by assumption) (by first | rfl | omega) (by omega) (by omega) ?_
        rw [u2_vst, prR_s]
        refine z_iinc C dX5_prepare_93 rfl (by decide) rfl ?_
        refine z_goto C (tgt := 57) dX5_prepare_96 (by decide) ?_
        rw [show (i : Int) + 1 = ((i + 1 : Nat) : Int) by omega]
        exact ih (i + 1) (by omega) (by omega)
  have hafter : Zq p l e9 ⟨3, 0, 0, 64⟩ s mt args below meth c G 5 Q 0 0 z K N (va_up I (b + 3) (srtR (I (t + 2)) n (I (b + 3)) n)) R 34 [(0, .ref b), (1, .ref t), (2, .int (zI (n : Int)))] [] := by
    have hV2 : TN (va_up I (b + 3) (srtR (I (t + 2)) n (I (b + 3)) n)) t f := hV.keep (fun a a1 a2 => va_up_n (by omega)) b5.2
    refine z_bipush C dX5_prepare_34 (by decide) ?_
    refine z_istore_n C dX5_prepare_36 (by decide) rfl ?_
    refine z_aload_n C dX5_prepare_37 rfl ?_
    refine z_gR C (ci := 5) (k := 6) rfl (by decide) rfl (by decide) wl_5 wq_3_16 (by decide) dX5_prepare_38 (by assumption) (by assumption) ?_
    refine z_iconst C dX5_prepare_41 ?_
    refine z_aload_n C dX5_prepare_42 rfl ?_
    refine z_iload_n C dX5_prepare_43 rfl ?_
    refine z_aload_n C dX5_prepare_44 rfl ?_
    refine z_gR C (ci := 4) (k := 0) rfl (by decide) rfl (by decide) wl_4 wq_16_21 (by decide) dX5_prepare_45 (by assumption) (by assumption) ?_
    refine z_iconst C dX5_prepare_48 ?_
    refine z_ialdk C (0) dX5_prepare_49 (by assumption) (by first | rfl | omega) (by omega) (by omega) ?_
    rw [hV2.1.1]
    refine z_callVd C (ci := 4) rfl (by decide) (by first | assumption | exact hM.1) (mX4_pressureOf l G hM hV2 hO (by omega) b0) (cwV 2 C.2.2.2.2.1 gv5_44 rfl rfl rfl hd_X4_pressureOf ⟨Nat.le_of_ble_eq_true rfl, Nat.le_of_ble_eq_true rfl⟩) rfl rfl (Nat.le_of_ble_eq_true rfl) dX5_prepare_50 ⟨Nat.zero_le _, Nat.zero_le _⟩ ?_
    refine z_iastk C (0) dX5_prepare_53 (by assumption) (by first | rfl | omega) (by omega) (by omega) ?_
    rw [u2_st, va_up_n (show b + 4 ≠ b + 3 by omega), prR_0 (srtR (I (t + 2)) n (I (b + 3)) n)]
    refine z_iconst C dX5_prepare_54 ?_
    refine z_istore C dX5_prepare_55 (by decide) rfl ?_
    refine z_conv (lv' := [(0, .ref b), (1, .ref t), (2, .int (zI (n : Int))), (3, .int (zI (100 + smG (srtR (I (t + 2)) n (I (b + 3)) n) 0))), (4, .int (zI ((0 : Nat) : Int)))]) rfl rfl rfl rfl ?_
    exact hloop2 (n + 1) 0 (by omega) (by omega)
  have hloop : ∀ (q i : Nat), i ≤ n → n - i < q → Zq p l e9 ⟨3, 0, 0, 64⟩ s mt args below meth c G 5 Q 0 0 z K N (va_up I (b + 3) (srtR (I (t + 2)) n (I (b + 3)) i)) R 7 [(0, .ref b), (1, .ref t), (2, .int (zI (n : Int))), (3, .int (zI (i : Int)))] [] := by
    intro q
    induction q with
    | zero => intro i h1 h2; exact absurd h2 (by omega)
    | succ q ih =>
      intro i h1 h2
      have hV2 : TN (va_up I (b + 3) (srtR (I (t + 2)) n (I (b + 3)) i)) t f := hV.keep (fun a a1 a2 => va_up_n (by omega)) b5.2
      refine z_iload_n C dX5_prepare_7 rfl ?_
      refine z_iload_n C dX5_prepare_8 rfl ?_
      refine z_icmp_ge C (tgt := 34) dX5_prepare_9 (by decide) (by first | omega | exact b2i_r) (by first | omega | exact b2i_r) (fun h9 => ?_) (fun h9 => ?_)
      · rw [show i = n by omega]
        exact z_sub [0, 1, 2] rfl rfl hafter
      · refine z_aload_n C dX5_prepare_12 rfl ?_
        refine z_gR C (ci := 5) (k := 5) rfl (by decide) rfl (by decide) wl_5 wq_3_15 (by decide) dX5_prepare_13 (by assumption) (by assumption) ?_
        refine z_aload_n C dX5_prepare_16 rfl ?_
        refine z_iload_n C dX5_prepare_17 rfl ?_
        refine z_callVd C (ci := 4) rfl (by decide) (by first | assumption | exact hM.1) (mX4_placeOf l G hM hV2 hO (r := i) (by omega)) (cwV 1 C.2.2.2.2.1 gv5_34 rfl rfl rfl hd_X4_placeOf ⟨Nat.le_of_ble_eq_true rfl, Nat.le_of_ble_eq_true rfl⟩) rfl rfl (Nat.le_of_ble_eq_true rfl) dX5_prepare_18 ⟨Nat.zero_le _, Nat.zero_le _⟩ ?_
        rw [va_up_n (show t + 2 ≠ b + 3 by omega), va_up_n (show t ≠ b + 3 by omega), show (I t 3).toNat = n by omega]
        have hpr := plT_r (I (t + 2)) i n
        obtain ⟨k9, hk9, hk8⟩ := ordC_on (I (t + 2)) n i (by omega)
        have hpl := plT_ord (I (t + 2)) hk9
        rw [hk8] at hpl
        refine z_aload_n C dX5_prepare_21 rfl ?_
        refine z_gR C (ci := 4) (k := 1) rfl (by decide) rfl (by decide) wl_4 wq_16_20 (by decide) dX5_prepare_22 (by assumption) (by assumption) ?_
        refine z_iload_n C dX5_prepare_25 rfl ?_
        refine z_ialdk C (i) dX5_prepare_26 (by assumption) (by first | rfl | omega) (by omega) (by omega) ?_
        rw [va_up_n (show t + 2 ≠ b + 3 by omega)]
        refine z_iastk C ((plT (I (t + 2)) i n).toNat) dX5_prepare_27 (by assumption) (by first | rfl | omega) (by omega) (by omega) ?_
        rw [u2_vst, ← srtR_s]
        refine z_iinc C dX5_prepare_28 rfl (by decide) rfl ?_
        refine z_goto C (tgt := 7) dX5_prepare_31 (by decide) ?_
        rw [show (i : Int) + 1 = ((i + 1 : Nat) : Int) by omega]
        exact ih (i + 1) (by omega) (by omega)
  refine z_aload_n C dX5_prepare_0 rfl ?_
  refine z_gI C (ci := 4) (k := 3) rfl (by decide) rfl (by decide) wl_4 wq_16_19 rfl dX5_prepare_1 (by assumption) ?_
  rw [hn3]
  refine z_istore_n C dX5_prepare_4 (by decide) rfl ?_
  refine z_iconst C dX5_prepare_5 ?_
  refine z_istore_n C dX5_prepare_6 (by decide) rfl ?_
  refine z_mem (va_upS I (b + 3)).symm rfl ?_
  exact hloop (n + 1) 0 (by omega) (by omega)

