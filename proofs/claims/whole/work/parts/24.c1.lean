/-! the class: a tester at t, its settings, grams, gauges behind it -/
theorem rnd_eq {v b : Int} (hv : 0 ≤ v) (hb : 0 < b) : (2 * v + b) / (2 * b) = rnd v b := by
  have hd := Int.mul_ediv_add_emod v b
  have h0 := Int.emod_nonneg v (show b ≠ 0 by omega)
  have h1 := Int.emod_lt_of_pos v hb
  unfold rnd
  generalize hq : v / b = q at hd ⊢
  generalize hr : v % b = r at hd h0 h1 ⊢
  have e : 2 * v + b = (2 * r + b) + (2 * b) * q := by rw [← hd, Int.mul_assoc]; omega
  rw [e, Int.add_mul_ediv_left _ _ (show (2 * b : Int) ≠ 0 by omega)]
  by_cases h : r ≥ b - r
  · rw [b2i_t h, show (2 * r + b) / (2 * b) = 1 from by
      have e2 : 2 * r + b = (2 * r - b) + (2 * b) * 1 := by omega
      rw [e2, Int.add_mul_ediv_left _ _ (show (2 * b : Int) ≠ 0 by omega), Int.ediv_eq_zero_of_lt (by omega) (by omega)]; rfl]
    omega
  · rw [b2i_f h, Int.ediv_eq_zero_of_lt (by omega) (by omega)]
    omega
theorem u2_self {α : Type} (f : Nat → Nat → α) (a k : Nat) : u2 f a k (f a k) = f := by
  funext b j
  by_cases hb : b = a
  · subst hb
    by_cases hj : j = k
    · subst hj; exact u2_s _ _ _ _
    · exact u2_k hj
  · rw [u2_row hb]
def ShT (G : GG) (z : Nat) (K N : Nat → Nat) (R : MR) (t : Nat) : Prop :=
  zK G z K t 4 ∧ (R t 0 = some (t + 1) ∧ R t 1 = some (t + 2) ∧ R t 2 = some (t + 3)) ∧ (zK G z K (t + 1) 9 ∧ zK G z K (t + 2) 9 ∧ zK G z K (t + 3) 10) ∧ (N (t + 1) = 3 ∧ N (t + 2) = 14 ∧ N (t + 3) = 6) ∧ ∀ i : Nat, i < 6 → zK G z K (t + 4 + i) 1 ∧ R (t + 3) i = some (t + 4 + i)
/-- the numbers of a tester are the model's -/
def TN (I : MI) (t : Nat) (f : Nat → Int) : Prop :=
  (I (t + 1) 0 = f 0 ∧ I (t + 1) 1 = f 1 ∧ I (t + 1) 2 = f 2) ∧ (I t 3 = f 3 ∧ I t 4 = f 4 ∧ I t 5 = f 5) ∧ (∀ r : Nat, (r : Int) < f 3 → I (t + 2) r = f (6 + r)) ∧ ∀ g : Nat, (g : Int) < f 5 → I (t + 4 + g) 0 = f (20 + 36 * g) ∧ I (t + 4 + g) 1 = f (21 + 36 * g) ∧ I (t + 4 + g) 2 = f (22 + 36 * g) ∧ I (t + 4 + g) 3 = f (23 + 36 * g)
theorem TN.mass {I : MI} {t : Nat} {f : Nat → Int} (h : TN I t f) (hO : Ok f) (sm : Int) : massS (fun r => I (t + 2) r) sm (I t 3).toNat = massA f sm := by
  have h3 := hO.2.2.2.1
  unfold massA
  rw [h.2.1.1]
  exact massS_cong _ fun r hr => h.2.2.1 r (by omega)
def voR (R : MR) (t n : Nat) : MR := fun a j => if t + 4 ≤ a ∧ a < t + 4 + n ∧ j = 4 then none else R a j
theorem voR_0 (R : MR) (t : Nat) : voR R t 0 = R := by
  funext a j
  exact if_neg (by omega)
theorem voR_s (R : MR) (t n : Nat) : u2 (voR R t n) (t + 4 + n) 4 none = voR R t (n + 1) := by
  funext a j
  unfold voR
  by_cases ha : a = t + 4 + n
  · subst ha
    by_cases hj : j = 4
    · subst hj; rw [u2_s, if_pos (by omega)]
    · rw [u2_k hj, if_neg (by omega), if_neg (by omega)]
  · rw [u2_row ha]
    by_cases h : t + 4 ≤ a ∧ a < t + 4 + n ∧ j = 4
    · rw [if_pos h, if_pos (by omega)]
    · rw [if_neg h, if_neg (by omega)]
theorem voR_n (R : MR) (t n a j : Nat) (h : ¬ (t + 4 ≤ a ∧ a < t + 4 + n ∧ j = 4)) : voR R t n a j = R a j := if_neg h
def haI (I : MI) (t : Nat) (P : Int) (n : Nat) : MI := fun a j => if t + 4 ≤ a ∧ a < t + 4 + n ∧ j = 3 then goes (I a 3) P (I a 0) (I a 1) else I a j
theorem haI_0 (I : MI) (t : Nat) (P : Int) : haI I t P 0 = I := by
  funext a j
  exact if_neg (by omega)
theorem haI_n (I : MI) (t : Nat) (P : Int) (n a j : Nat) (h : ¬ (t + 4 ≤ a ∧ a < t + 4 + n ∧ j = 3)) : haI I t P n a j = I a j := if_neg h
theorem haI_s (I : MI) (t : Nat) (P : Int) (n : Nat) : u2 (haI I t P n) (t + 4 + n) 3 (goes (haI I t P n (t + 4 + n) 3) P (haI I t P n (t + 4 + n) 0) (haI I t P n (t + 4 + n) 1)) = haI I t P (n + 1) := by
  rw [haI_n _ _ _ _ _ _ (by omega), haI_n _ _ _ _ _ _ (by omega), haI_n _ _ _ _ _ _ (by omega)]
  funext a j
  by_cases ha : a = t + 4 + n
  · subst ha
    by_cases hj : j = 3
    · subst hj; rw [u2_s]; exact (if_pos (by omega)).symm
    · rw [u2_k hj, haI_n _ _ _ _ _ _ (by omega), haI_n _ _ _ _ _ _ (by omega)]
  · rw [u2_row ha]
    unfold haI
    by_cases h : t + 4 ≤ a ∧ a < t + 4 + n ∧ j = 3
    · rw [if_pos h, if_pos (by omega)]
    · rw [if_neg h, if_neg (by omega)]
/-- certificates counted -/
def hasC (r : Option Nat) : Int := match r with
  | none => 0
  | some _ => 1
def cerN (R : MR) (t : Nat) : Nat → Int
  | 0 => 0
  | n + 1 => cerN R t n + hasC (R (t + 4 + n) 4)
set_option maxHeartbeats 4000000 in
set_option maxRecDepth 100000 in
theorem mX6_dividedDown (l : Launch) (G : GG) {z : Nat} {K N : Nat → Nat} {I : MI} {R : MR} {v b : Int} (hv : 0 ≤ v ∧ v < 2147483648) (hb : 0 < b ∧ b < 2147483648) : Cod l G yX6_dividedDown (Cond.code yX6_dividedDown cX6_dividedDown 2 (some .int) :: wsL_law) ⟨0, 0, 0, 0⟩ [.int (zI v), .int (zI b)] z K N I R (some (.int (zI (v / b)))) I R := by
  refine Con.of (own := RX6) (cc := cX6_dividedDown) (maxL := 2) (ret := (some .int)) (by decide +kernel) rfl rfl (Nat.le_of_ble_eq_true rfl) (by decide) rfl ?_
  intro p e9 s mt args below meth c Q hin hQ C
  refine z_iload_n C dX6_dividedDown_0 rfl ?_
  refine z_iconst C dX6_dividedDown_1 ?_
  refine z_icmp_ge C (tgt := 9) dX6_dividedDown_2 (by decide) (by first | omega | exact b2i_r) (by first | omega | exact b2i_r) (fun h2 => ?_) (fun h2 => ?_)
  · refine z_iload_n C dX6_dividedDown_9 rfl ?_
    refine z_iload_n C dX6_dividedDown_10 rfl ?_
    refine z_idiv C dX6_dividedDown_11 (by omega) (by omega) ?_
    exact z_iret2 C hQ rfl dX6_dividedDown_12 ⟨zr (by first | rfl | (exfalso; omega)), rfl, rfl, rfl, rfl, rfl⟩
  · refine z_iconst C dX6_dividedDown_5 ?_
    refine z_goto C (tgt := 12) dX6_dividedDown_6 (by decide) ?_
    exact z_iret2 C hQ rfl dX6_dividedDown_12 ⟨zr (by first | rfl | (exfalso; omega)), rfl, rfl, rfl, rfl, rfl⟩

set_option maxHeartbeats 4000000 in
set_option maxRecDepth 100000 in
theorem mX6_dividedRounded (l : Launch) (G : GG) {z : Nat} {K N : Nat → Nat} {I : MI} {R : MR} {v b : Int} (hv : 0 ≤ v ∧ v < 200000000) (hb : 0 < b ∧ b < 200000) : Cod l G yX6_dividedRounded (Cond.code yX6_dividedRounded cX6_dividedRounded 2 (some .int) :: wsL_law) ⟨0, 0, 0, 0⟩ [.int (zI v), .int (zI b)] z K N I R (some (.int (zI (rnd v b)))) I R := by
  refine Con.of (own := RX6) (cc := cX6_dividedRounded) (maxL := 2) (ret := (some .int)) (by decide +kernel) rfl rfl (Nat.le_of_ble_eq_true rfl) (by decide) rfl ?_
  intro p e9 s mt args below meth c Q hin hQ C
  refine z_iload_n C dX6_dividedRounded_0 rfl ?_
  refine z_iconst C dX6_dividedRounded_1 ?_
  refine z_icmp_ge C (tgt := 9) dX6_dividedRounded_2 (by decide) (by first | omega | exact b2i_r) (by first | omega | exact b2i_r) (fun h2 => ?_) (fun h2 => ?_)
  · refine z_iconst C dX6_dividedRounded_9 ?_
    refine z_iload_n C dX6_dividedRounded_10 rfl ?_
    refine z_imul C dX6_dividedRounded_11 ?_
    refine z_iload_n C dX6_dividedRounded_12 rfl ?_
    refine z_iadd C dX6_dividedRounded_13 ?_
    refine z_iconst C dX6_dividedRounded_14 ?_
    refine z_iload_n C dX6_dividedRounded_15 rfl ?_
    refine z_imul C dX6_dividedRounded_16 ?_
    refine z_idiv C dX6_dividedRounded_17 (by omega) (by omega) ?_
    exact z_iret2 C hQ rfl dX6_dividedRounded_18 ⟨zr (by first | exact rnd_eq hv.1 hb.1 | (exfalso; omega)), rfl, rfl, rfl, rfl, rfl⟩
  · refine z_iconst C dX6_dividedRounded_5 ?_
    refine z_goto C (tgt := 18) dX6_dividedRounded_6 (by decide) ?_
    exact z_iret2 C hQ rfl dX6_dividedRounded_18 ⟨zr (by first | exact rnd_eq hv.1 hb.1 | (exfalso; omega)), rfl, rfl, rfl, rfl, rfl⟩

set_option maxHeartbeats 4000000 in
set_option maxRecDepth 100000 in
theorem mX6_weightOf (l : Launch) (G : GG) {z : Nat} {K N : Nat → Nat} {I : MI} {R : MR} {m air : Int} (hm : 100 ≤ m ∧ m ≤ 140086) (ha : 0 ≤ air ∧ air ≤ 9) : Cod l G yX6_weightOf (Cond.code yX6_weightOf cX6_weightOf 2 (some .int) :: wsL_law) ⟨1, 0, 0, 21⟩ [.int (zI m), .int (zI air)] z K N I R (some (.int (zI (wgt m air)))) I R := by
  refine Con.of (own := RX6) (cc := cX6_weightOf) (maxL := 2) (ret := (some .int)) (by decide +kernel) rfl rfl (Nat.le_of_ble_eq_true rfl) (by decide) rfl ?_
  intro p e9 s mt args below meth c Q hin hQ C
  have hr := air_rng hm ha
  refine z_iload_n C dX6_weightOf_0 rfl ?_
  refine z_iload_n C dX6_weightOf_1 rfl ?_
  refine z_bipush C dX6_weightOf_2 (by decide) ?_
  refine z_iconst C dX6_weightOf_4 ?_
  refine z_iload_n C dX6_weightOf_5 rfl ?_
  refine z_imul C dX6_weightOf_6 ?_
  refine z_iadd C dX6_weightOf_7 ?_
  refine z_imul C dX6_weightOf_8 ?_
  refine z_ldc C (n := 100000) dX6_weightOf_9 wq_6_18 ?_
  refine z_callSd C (mX6_dividedRounded l G (by omega) (by omega)) (va_cwS 2 C.2.2.2.2.1 gv6_204 rfl rfl rfl hs_X6_dividedRounded ⟨Nat.le_of_ble_eq_true rfl, Nat.le_of_ble_eq_true rfl⟩) rfl rfl (Nat.le_of_ble_eq_true rfl) dX6_weightOf_11 ⟨Nat.zero_le _, Nat.zero_le _⟩ ?_
  refine z_isub C dX6_weightOf_14 ?_
  exact z_iret2 C hQ rfl dX6_weightOf_15 ⟨rfl, rfl, rfl, rfl, rfl, rfl⟩

set_option maxHeartbeats 4000000 in
set_option maxRecDepth 100000 in
theorem mX1_begin (l : Launch) (G : GG) {z : Nat} {K N : Nat → Nat} {I : MI} {R : MR} {a : Nat} (ha : zK G z K a 1) {er pl sp : Int} : Cod l G yX1_begin (Cond.code yX1_begin cX1_begin 4 none :: wsL_law) ⟨0, 0, 0, 0⟩ [.ref a, .int (zI er), .int (zI pl), .int (zI sp)] z K N I R none (va_up I a (st1 (st1 (st1 (st1 (I a) 0 er) 1 pl) 2 sp) 3 0)) (u2 R a 4 none) := by
  refine Con.of (own := RX1) (cc := cX1_begin) (maxL := 4) (ret := none) (by decide +kernel) rfl rfl (Nat.le_of_ble_eq_true rfl) (by decide) rfl ?_
  intro p e9 s mt args below meth c Q hin hQ C
  refine z_aload_n C dX1_begin_0 rfl ?_
  refine z_iload_n C dX1_begin_1 rfl ?_
  refine z_pI C (ci := 1) (k := 0) rfl (by decide) rfl (by decide) tyX1_ok nmX1 wl_1 wq_5_10 rfl (Or.inl rfl) dX1_begin_2 (by assumption) ?_
  refine z_aload_n C dX1_begin_5 rfl ?_
  refine z_iload_n C dX1_begin_6 rfl ?_
  refine z_pI C (ci := 1) (k := 1) rfl (by decide) rfl (by decide) tyX1_ok nmX1 wl_1 wq_5_11 rfl (Or.inl rfl) dX1_begin_7 (by assumption) ?_
  refine z_aload_n C dX1_begin_10 rfl ?_
  refine z_iload_n C dX1_begin_11 rfl ?_
  refine z_pI C (ci := 1) (k := 2) rfl (by decide) rfl (by decide) tyX1_ok nmX1 wl_1 wq_5_12 rfl (Or.inl rfl) dX1_begin_12 (by assumption) ?_
  refine z_aload_n C dX1_begin_15 rfl ?_
  refine z_iconst C dX1_begin_16 ?_
  refine z_pI C (ci := 1) (k := 3) rfl (by decide) rfl (by decide) tyX1_ok nmX1 wl_1 wq_5_13 rfl (Or.inl rfl) dX1_begin_17 (by assumption) ?_
  refine z_aload_n C dX1_begin_20 rfl ?_
  refine z_null C dX1_begin_21 ?_
  refine z_pR (r := none) C (ci := 1) (k := 4) rfl (by decide) rfl (by decide) tyX1_ok nmX1 wl_1 wq_5_14 (by decide) (fun r => by cases r <;> exact ⟨rfl, rfl⟩) (Or.inl rfl) dX1_begin_22 (by assumption) ?_
  exact z_vret2 C hQ rfl dX1_begin_25 ⟨rfl, rfl, rfl, rfl, by rw [u2_st I a 0, u2_vst, u2_vst, u2_vst], rfl⟩

set_option maxHeartbeats 4000000 in
set_option maxRecDepth 100000 in
theorem mX1_copyFrom (l : Launch) (G : GG) {z : Nat} {K N : Nat → Nat} {I : MI} {R : MR} {a : Nat} (ha : zK G z K a 1) {b : Nat} (hb : zK G z K b 1) (hab : ¬ b = a) : Cod l G yX1_copyFrom (Cond.code yX1_copyFrom cX1_copyFrom 2 none :: wsL_law) ⟨0, 0, 0, 0⟩ [.ref a, .ref b] z K N I R none (va_up I a (st1 (st1 (st1 (st1 (I a) 0 (I b 0)) 1 (I b 1)) 2 (I b 2)) 3 (I b 3))) (u2 R a 4 (R b 4)) := by
  refine Con.of (own := RX1) (cc := cX1_copyFrom) (maxL := 2) (ret := none) (by decide +kernel) rfl rfl (Nat.le_of_ble_eq_true rfl) (by decide) rfl ?_
  intro p e9 s mt args below meth c Q hin hQ C
  refine z_aload_n C dX1_copyFrom_0 rfl ?_
  refine z_aload_n C dX1_copyFrom_1 rfl ?_
  refine z_gI C (ci := 1) (k := 0) rfl (by decide) rfl (by decide) wl_1 wq_5_10 rfl dX1_copyFrom_2 (by assumption) ?_
  refine z_pI C (ci := 1) (k := 0) rfl (by decide) rfl (by decide) tyX1_ok nmX1 wl_1 wq_5_10 rfl (Or.inl rfl) dX1_copyFrom_5 (by assumption) ?_
  refine z_aload_n C dX1_copyFrom_8 rfl ?_
  refine z_aload_n C dX1_copyFrom_9 rfl ?_
  refine z_gI C (ci := 1) (k := 1) rfl (by decide) rfl (by decide) wl_1 wq_5_11 rfl dX1_copyFrom_10 (by assumption) ?_
  rw [u2_row hab]
  refine z_pI C (ci := 1) (k := 1) rfl (by decide) rfl (by decide) tyX1_ok nmX1 wl_1 wq_5_11 rfl (Or.inl rfl) dX1_copyFrom_13 (by assumption) ?_
  refine z_aload_n C dX1_copyFrom_16 rfl ?_
  refine z_aload_n C dX1_copyFrom_17 rfl ?_
  refine z_gI C (ci := 1) (k := 2) rfl (by decide) rfl (by decide) wl_1 wq_5_12 rfl dX1_copyFrom_18 (by assumption) ?_
  rw [u2_row hab, u2_row hab]
  refine z_pI C (ci := 1) (k := 2) rfl (by decide) rfl (by decide) tyX1_ok nmX1 wl_1 wq_5_12 rfl (Or.inl rfl) dX1_copyFrom_21 (by assumption) ?_
  refine z_aload_n C dX1_copyFrom_24 rfl ?_
  refine z_aload_n C dX1_copyFrom_25 rfl ?_
  refine z_gI C (ci := 1) (k := 3) rfl (by decide) rfl (by decide) wl_1 wq_5_13 rfl dX1_copyFrom_26 (by assumption) ?_
  rw [u2_row hab, u2_row hab, u2_row hab]
  refine z_pI C (ci := 1) (k := 3) rfl (by decide) rfl (by decide) tyX1_ok nmX1 wl_1 wq_5_13 rfl (Or.inl rfl) dX1_copyFrom_29 (by assumption) ?_
  refine z_aload_n C dX1_copyFrom_32 rfl ?_
  refine z_aload_n C dX1_copyFrom_33 rfl ?_
  refine z_gO C (ci := 1) (k := 4) rfl (by decide) rfl (by decide) wl_1 wq_5_14 (by decide) dX1_copyFrom_34 (by assumption) ?_
  refine z_pR C (ci := 1) (k := 4) rfl (by decide) rfl (by decide) tyX1_ok nmX1 wl_1 wq_5_14 (by decide) (fun r => by cases r <;> exact ⟨rfl, rfl⟩) (Or.inl rfl) dX1_copyFrom_37 (by assumption) ?_
  exact z_vret2 C hQ rfl dX1_copyFrom_40 ⟨rfl, rfl, rfl, rfl, by rw [u2_st I a 0, u2_vst, u2_vst, u2_vst], rfl⟩

set_option maxHeartbeats 4000000 in
set_option maxRecDepth 100000 in
theorem mX1_follow (l : Launch) (G : GG) {z : Nat} {K N : Nat → Nat} {I : MI} {R : MR} {a : Nat} (ha : zK G z K a 1) {q : Int} (hp : 0 ≤ q ∧ q ≤ 14008600) (he : -99 ≤ I a 0 ∧ I a 0 ≤ 99) (hl : 0 ≤ I a 1 ∧ I a 1 ≤ 99) (hh : 0 ≤ I a 3 ∧ I a 3 ≤ 16000000) : Cod l G yX1_follow (Cond.code yX1_follow cX1_follow 4 none :: wsL_law) ⟨1, 0, 0, 21⟩ [.ref a, .int (zI q)] z K N I R none (u2 I a 3 (goes (I a 3) q (I a 0) (I a 1))) R := by
  refine Con.of (own := RX1) (cc := cX1_follow) (maxL := 4) (ret := none) (by decide +kernel) rfl rfl (Nat.le_of_ble_eq_true rfl) (by decide) rfl ?_
  intro p e9 s mt args below meth c Q hin hQ C
  have hr := tru_rng hp he
  have hab : (if 0 ≤ I a 0 then I a 0 else -I a 0) = absz (I a 0) := by unfold absz; split <;> split <;> omega
  have hdv : 0 ≤ q * absz (I a 0) / 1000 := Int.ediv_nonneg hr.1.1 (by omega)
  refine z_iload_n C dX1_follow_0 rfl ?_
  refine z_aload_n C dX1_follow_1 rfl ?_
  refine z_gI C (ci := 1) (k := 0) rfl (by decide) rfl (by decide) wl_1 wq_5_10 rfl dX1_follow_2 (by assumption) ?_
  refine z_abs C wq_7_4 wq_7_5 wq_7_6 wq_7_7 (Nat.le_of_ble_eq_true rfl) (Nat.le_of_ble_eq_true rfl) (Nat.zero_le _) (Nat.zero_le _) dX1_follow_5 (by omega) ?_
  rw [hab]
  refine z_imul C dX1_follow_8 ?_
  refine z_sipush C dX1_follow_9 (by decide) ?_
  refine z_callSNd C (host := RX6) (mX6_dividedDown l G (by omega) (by omega)) ⟨va_cnB 2 C.2.2.2.2.1 gn_X6_dividedDown rfl rfl rfl (znw C.2.2.2.2.2.2.2.1 2 rfl) (C.2.2.2.2.1 _ wq_1_2) hs_X6_dividedDown ⟨Nat.le_of_ble_eq_true rfl, Nat.le_of_ble_eq_true rfl⟩, C.2.2.2.2.1 _ wq_6_22, trivial⟩ rfl rfl (Nat.le_of_ble_eq_true rfl) dX1_follow_12 ⟨Nat.zero_le _, Nat.zero_le _⟩ ?_
  refine z_istore_n C dX1_follow_15 (by decide) rfl ?_
  refine z_aload_n C dX1_follow_16 rfl ?_
  refine z_gI C (ci := 1) (k := 0) rfl (by decide) rfl (by decide) wl_1 wq_5_10 rfl dX1_follow_17 (by assumption) ?_
  refine z_if_ge C (tgt := 29) dX1_follow_20 (by decide) (by first | omega | exact b2i_r) (fun h20 => ?_) (fun h20 => ?_)
  · refine z_iload_n C dX1_follow_29 rfl ?_
    refine z_iload_n C dX1_follow_30 rfl ?_
    refine z_iadd C dX1_follow_31 ?_
    refine z_istore_n C dX1_follow_32 (by decide) rfl ?_
    have htr : tru q (I a 0) = (if I a 0 < 0 then q - q * absz (I a 0) / 1000 else q + q * absz (I a 0) / 1000) := rfl
    first
    | rw [show q - q * absz (I a 0) / 1000 = tru q (I a 0) from by rw [htr, if_pos (by omega)]]
    | rw [show q + q * absz (I a 0) / 1000 = tru q (I a 0) from by rw [htr, if_neg (by omega)]]
    refine z_aload_n C dX1_follow_33 rfl ?_
    refine z_gI C (ci := 1) (k := 3) rfl (by decide) rfl (by decide) wl_1 wq_5_13 rfl dX1_follow_34 (by assumption) ?_
    refine z_iload_n C dX1_follow_37 rfl ?_
    refine z_aload_n C dX1_follow_38 rfl ?_
    refine z_gI C (ci := 1) (k := 1) rfl (by decide) rfl (by decide) wl_1 wq_5_11 rfl dX1_follow_39 (by assumption) ?_
    refine z_isub C dX1_follow_42 ?_
    refine z_icmp_ge C (tgt := 59) dX1_follow_43 (by decide) (by first | omega | exact b2i_r) (by first | omega | exact b2i_r) (fun h43 => ?_) (fun h43 => ?_)
    · refine z_aload_n C dX1_follow_59 rfl ?_
      refine z_gI C (ci := 1) (k := 3) rfl (by decide) rfl (by decide) wl_1 wq_5_13 rfl dX1_follow_60 (by assumption) ?_
      refine z_iload_n C dX1_follow_63 rfl ?_
      refine z_aload_n C dX1_follow_64 rfl ?_
      refine z_gI C (ci := 1) (k := 1) rfl (by decide) rfl (by decide) wl_1 wq_5_11 rfl dX1_follow_65 (by assumption) ?_
      refine z_iadd C dX1_follow_68 ?_
      refine z_icmp_le C (tgt := 82) dX1_follow_69 (by decide) (by first | omega | exact b2i_r) (by first | omega | exact b2i_r) (fun h69 => ?_) (fun h69 => ?_)
      · exact z_vret2 C hQ rfl dX1_follow_82 ⟨rfl, rfl, rfl, rfl, by unfold goes; first | rw [if_pos (by omega)] | (rw [if_neg (by omega), if_pos (by omega)]; done) | (rw [if_neg (by omega), if_neg (by omega)]; exact (u2_self I a 3).symm), rfl⟩
      · refine z_aload_n C dX1_follow_72 rfl ?_
        refine z_iload_n C dX1_follow_73 rfl ?_
        refine z_aload_n C dX1_follow_74 rfl ?_
        refine z_gI C (ci := 1) (k := 1) rfl (by decide) rfl (by decide) wl_1 wq_5_11 rfl dX1_follow_75 (by assumption) ?_
        refine z_iadd C dX1_follow_78 ?_
        refine z_pI C (ci := 1) (k := 3) rfl (by decide) rfl (by decide) tyX1_ok nmX1 wl_1 wq_5_13 rfl (Or.inl rfl) dX1_follow_79 (by assumption) ?_
        exact z_vret2 C hQ rfl dX1_follow_82 ⟨rfl, rfl, rfl, rfl, by unfold goes; first | rw [if_pos (by omega)] | (rw [if_neg (by omega), if_pos (by omega)]; done) | (rw [if_neg (by omega), if_neg (by omega)]; exact (u2_self I a 3).symm), rfl⟩
    · refine z_aload_n C dX1_follow_46 rfl ?_
      refine z_iload_n C dX1_follow_47 rfl ?_
      refine z_aload_n C dX1_follow_48 rfl ?_
      refine z_gI C (ci := 1) (k := 1) rfl (by decide) rfl (by decide) wl_1 wq_5_11 rfl dX1_follow_49 (by assumption) ?_
      refine z_isub C dX1_follow_52 ?_
      refine z_pI C (ci := 1) (k := 3) rfl (by decide) rfl (by decide) tyX1_ok nmX1 wl_1 wq_5_13 rfl (Or.inl rfl) dX1_follow_53 (by assumption) ?_
      refine z_goto C (tgt := 82) dX1_follow_56 (by decide) ?_
      exact z_vret2 C hQ rfl dX1_follow_82 ⟨rfl, rfl, rfl, rfl, by unfold goes; first | rw [if_pos (by omega)] | (rw [if_neg (by omega), if_pos (by omega)]; done) | (rw [if_neg (by omega), if_neg (by omega)]; exact (u2_self I a 3).symm), rfl⟩
  · refine z_iload_n C dX1_follow_23 rfl ?_
    refine z_iload_n C dX1_follow_24 rfl ?_
    refine z_isub C dX1_follow_25 ?_
    refine z_goto C (tgt := 32) dX1_follow_26 (by decide) ?_
    refine z_istore_n C dX1_follow_32 (by decide) rfl ?_
    have htr : tru q (I a 0) = (if I a 0 < 0 then q - q * absz (I a 0) / 1000 else q + q * absz (I a 0) / 1000) := rfl
    first
    | rw [show q - q * absz (I a 0) / 1000 = tru q (I a 0) from by rw [htr, if_pos (by omega)]]
    | rw [show q + q * absz (I a 0) / 1000 = tru q (I a 0) from by rw [htr, if_neg (by omega)]]
    refine z_aload_n C dX1_follow_33 rfl ?_
    refine z_gI C (ci := 1) (k := 3) rfl (by decide) rfl (by decide) wl_1 wq_5_13 rfl dX1_follow_34 (by assumption) ?_
    refine z_iload_n C dX1_follow_37 rfl ?_
    refine z_aload_n C dX1_follow_38 rfl ?_
    refine z_gI C (ci := 1) (k := 1) rfl (by decide) rfl (by decide) wl_1 wq_5_11 rfl dX1_follow_39 (by assumption) ?_
    refine z_isub C dX1_follow_42 ?_
    refine z_icmp_ge C (tgt := 59) dX1_follow_43 (by decide) (by first | omega | exact b2i_r) (by first | omega | exact b2i_r) (fun h43 => ?_) (fun h43 => ?_)
    · refine z_aload_n C dX1_follow_59 rfl ?_
      refine z_gI C (ci := 1) (k := 3) rfl (by decide) rfl (by decide) wl_1 wq_5_13 rfl dX1_follow_60 (by assumption) ?_
      refine z_iload_n C dX1_follow_63 rfl ?_
      refine z_aload_n C dX1_follow_64 rfl ?_
      refine z_gI C (ci := 1) (k := 1) rfl (by decide) rfl (by decide) wl_1 wq_5_11 rfl dX1_follow_65 (by assumption) ?_
      refine z_iadd C dX1_follow_68 ?_
      refine z_icmp_le C (tgt := 82) dX1_follow_69 (by decide) (by first | omega | exact b2i_r) (by first | omega | exact b2i_r) (fun h69 => ?_) (fun h69 => ?_)
      · exact z_vret2 C hQ rfl dX1_follow_82 ⟨rfl, rfl, rfl, rfl, by unfold goes; first | rw [if_pos (by omega)] | (rw [if_neg (by omega), if_pos (by omega)]; done) | (rw [if_neg (by omega), if_neg (by omega)]; exact (u2_self I a 3).symm), rfl⟩
      · refine z_aload_n C dX1_follow_72 rfl ?_
        refine z_iload_n C dX1_follow_73 rfl ?_
        refine z_aload_n C dX1_follow_74 rfl ?_
        refine z_gI C (ci := 1) (k := 1) rfl (by decide) rfl (by decide) wl_1 wq_5_11 rfl dX1_follow_75 (by assumption) ?_
        refine z_iadd C dX1_follow_78 ?_
        refine z_pI C (ci := 1) (k := 3) rfl (by decide) rfl (by decide) tyX1_ok nmX1 wl_1 wq_5_13 rfl (Or.inl rfl) dX1_follow_79 (by assumption) ?_
        exact z_vret2 C hQ rfl dX1_follow_82 ⟨rfl, rfl, rfl, rfl, by unfold goes; first | rw [if_pos (by omega)] | (rw [if_neg (by omega), if_pos (by omega)]; done) | (rw [if_neg (by omega), if_neg (by omega)]; exact (u2_self I a 3).symm), rfl⟩
    · refine z_aload_n C dX1_follow_46 rfl ?_
      refine z_iload_n C dX1_follow_47 rfl ?_
      refine z_aload_n C dX1_follow_48 rfl ?_
      refine z_gI C (ci := 1) (k := 1) rfl (by decide) rfl (by decide) wl_1 wq_5_11 rfl dX1_follow_49 (by assumption) ?_
      refine z_isub C dX1_follow_52 ?_
      refine z_pI C (ci := 1) (k := 3) rfl (by decide) rfl (by decide) tyX1_ok nmX1 wl_1 wq_5_13 rfl (Or.inl rfl) dX1_follow_53 (by assumption) ?_
      refine z_goto C (tgt := 82) dX1_follow_56 (by decide) ?_
      exact z_vret2 C hQ rfl dX1_follow_82 ⟨rfl, rfl, rfl, rfl, by unfold goes; first | rw [if_pos (by omega)] | (rw [if_neg (by omega), if_pos (by omega)]; done) | (rw [if_neg (by omega), if_neg (by omega)]; exact (u2_self I a 3).symm), rfl⟩

set_option maxHeartbeats 4000000 in
set_option maxRecDepth 100000 in
theorem mX1_shown (l : Launch) (G : GG) {z : Nat} {K N : Nat → Nat} {I : MI} {R : MR} {a : Nat} (ha : zK G z K a 1) (hh : 0 ≤ I a 3 ∧ I a 3 ≤ 16000000) (hs : 1 ≤ I a 2 ∧ I a 2 ≤ 99) : Cod l G yX1_shown (Cond.code yX1_shown cX1_shown 1 (some .int) :: wsL_law) ⟨1, 0, 0, 21⟩ [.ref a] z K N I R (some (.int (zI (rnd (I a 3) (I a 2) * I a 2)))) I R := by
  refine Con.of (own := RX1) (cc := cX1_shown) (maxL := 1) (ret := (some .int)) (by decide +kernel) rfl rfl (Nat.le_of_ble_eq_true rfl) (by decide) rfl ?_
  intro p e9 s mt args below meth c Q hin hQ C
  refine z_aload_n C dX1_shown_0 rfl ?_
  refine z_gI C (ci := 1) (k := 3) rfl (by decide) rfl (by decide) wl_1 wq_5_13 rfl dX1_shown_1 (by assumption) ?_
  refine z_aload_n C dX1_shown_4 rfl ?_
  refine z_gI C (ci := 1) (k := 2) rfl (by decide) rfl (by decide) wl_1 wq_5_12 rfl dX1_shown_5 (by assumption) ?_
  refine z_callSNd C (host := RX6) (mX6_dividedRounded l G (by omega) (by omega)) ⟨va_cnB 2 C.2.2.2.2.1 gn_X6_dividedRounded rfl rfl rfl (znw C.2.2.2.2.2.2.2.1 3 rfl) (C.2.2.2.2.1 _ wq_1_2) hs_X6_dividedRounded ⟨Nat.le_of_ble_eq_true rfl, Nat.le_of_ble_eq_true rfl⟩, C.2.2.2.2.1 _ wq_6_20, trivial⟩ rfl rfl (Nat.le_of_ble_eq_true rfl) dX1_shown_8 ⟨Nat.zero_le _, Nat.zero_le _⟩ ?_
  refine z_aload_n C dX1_shown_11 rfl ?_
  refine z_gI C (ci := 1) (k := 2) rfl (by decide) rfl (by decide) wl_1 wq_5_12 rfl dX1_shown_12 (by assumption) ?_
  refine z_imul C dX1_shown_15 ?_
  exact z_iret2 C hQ rfl dX1_shown_16 ⟨rfl, rfl, rfl, rfl, rfl, rfl⟩

set_option maxHeartbeats 4000000 in
set_option maxRecDepth 100000 in
theorem mX4_hasRing (l : Launch) (G : GG) {z : Nat} {K N : Nat → Nat} {I : MI} {R : MR} {t : Nat} (hM : ShT G z K N R t) {f : Nat → Int} (hV : TN I t f) (hO : Ok f) {r : Int} (hr : -2147483648 ≤ r ∧ r < 2147483648) : Cod l G yX4_hasRing (Cond.code yX4_hasRing cX4_hasRing 2 (some .boolean) :: wsL_law) ⟨0, 0, 0, 0⟩ [.ref t, .int (zI r)] z K N I R (some (.int (zI (b2i (0 ≤ r ∧ r ≤ I t 3 - 1))))) I R := by
  refine Con.of (own := RX4) (cc := cX4_hasRing) (maxL := 2) (ret := (some .boolean)) (by decide +kernel) rfl rfl (Nat.le_of_ble_eq_true rfl) (by decide) rfl ?_
  intro p e9 s mt args below meth c Q hin hQ C
  obtain ⟨ho, ⟨r0, r1, r2⟩, ⟨k1, k2, k3⟩, ⟨n1, n2, n3⟩, hg⟩ := id hM
  obtain ⟨⟨v0, v1, v2⟩, ⟨v3, v4, v5⟩, vr, vg⟩ := id hV
  obtain ⟨b0, b1, b2, b3, b4, b5, br, bg⟩ := id hO
  have b4b := Ok4 hO
  refine z_iload_n C dX4_hasRing_0 rfl ?_
  refine z_if_lt C (tgt := 16) dX4_hasRing_1 (by decide) (by first | omega | exact b2i_r) (fun h1 => ?_) (fun h1 => ?_)
  · refine z_iconst C dX4_hasRing_16 ?_
    exact z_zret2 C hQ rfl (by first | exact Or.inl rfl | exact Or.inr rfl | exact b2i_c | omega) dX4_hasRing_17 ⟨zr (by first | exact (b2i_t (by omega)).symm | exact (b2i_f (by omega)).symm), rfl, rfl, rfl, rfl, rfl⟩
  · refine z_iload_n C dX4_hasRing_4 rfl ?_
    refine z_aload_n C dX4_hasRing_5 rfl ?_
    refine z_gI C (ci := 4) (k := 3) rfl (by decide) rfl (by decide) wl_4 wq_5_3 rfl dX4_hasRing_6 (by assumption) ?_
    refine z_icmp_ge C (tgt := 16) dX4_hasRing_9 (by decide) (by first | omega | exact b2i_r) (by first | omega | exact b2i_r) (fun h9 => ?_) (fun h9 => ?_)
    · refine z_iconst C dX4_hasRing_16 ?_
      exact z_zret2 C hQ rfl (by first | exact Or.inl rfl | exact Or.inr rfl | exact b2i_c | omega) dX4_hasRing_17 ⟨zr (by first | exact (b2i_t (by omega)).symm | exact (b2i_f (by omega)).symm), rfl, rfl, rfl, rfl, rfl⟩
    · refine z_iconst C dX4_hasRing_12 ?_
      refine z_goto C (tgt := 17) dX4_hasRing_13 (by decide) ?_
      exact z_zret2 C hQ rfl (by first | exact Or.inl rfl | exact Or.inr rfl | exact b2i_c | omega) dX4_hasRing_17 ⟨zr (by first | exact (b2i_t (by omega)).symm | exact (b2i_f (by omega)).symm), rfl, rfl, rfl, rfl, rfl⟩

set_option maxHeartbeats 4000000 in
set_option maxRecDepth 100000 in
theorem mX4_isStacked (l : Launch) (G : GG) {z : Nat} {K N : Nat → Nat} {I : MI} {R : MR} {t : Nat} (hM : ShT G z K N R t) {f : Nat → Int} (hV : TN I t f) (hO : Ok f) {r : Int} (hr : 0 ≤ r ∧ r < 31) : Cod l G yX4_isStacked (Cond.code yX4_isStacked cX4_isStacked 2 (some .boolean) :: wsL_law) ⟨0, 0, 0, 0⟩ [.ref t, .int (zI r)] z K N I R (some (.int (zI (I t 4 / 2 ^ r.toNat % 2)))) I R := by
  refine Con.of (own := RX4) (cc := cX4_isStacked) (maxL := 2) (ret := (some .boolean)) (by decide +kernel) rfl rfl (Nat.le_of_ble_eq_true rfl) (by decide) rfl ?_
  intro p e9 s mt args below meth c Q hin hQ C
  obtain ⟨ho, ⟨r0, r1, r2⟩, ⟨k1, k2, k3⟩, ⟨n1, n2, n3⟩, hg⟩ := id hM
  obtain ⟨⟨v0, v1, v2⟩, ⟨v3, v4, v5⟩, vr, vg⟩ := id hV
  obtain ⟨b0, b1, b2, b3, b4, b5, br, bg⟩ := id hO
  have b4b := Ok4 hO
  refine z_aload_n C dX4_isStacked_0 rfl ?_
  refine z_gI C (ci := 4) (k := 4) rfl (by decide) rfl (by decide) wl_4 wq_5_4 rfl dX4_isStacked_1 (by assumption) ?_
  refine z_iload_n C dX4_isStacked_4 rfl ?_
  refine z_ishr C dX4_isStacked_5 (zI_shr (by omega) (by omega)) ?_
  refine z_iconst C dX4_isStacked_6 ?_
  refine z_iand C dX4_isStacked_7 (zI_and1 _) ?_
  refine z_iconst C dX4_isStacked_8 ?_
  refine z_icmp_ne C (tgt := 16) dX4_isStacked_9 (by decide) (by first | omega | exact b2i_r) (by first | omega | exact b2i_r) (fun h9 => ?_) (fun h9 => ?_)
  · refine z_iconst C dX4_isStacked_16 ?_
    exact z_zret2 C hQ rfl (by first | exact Or.inl rfl | exact Or.inr rfl | exact b2i_c | omega) dX4_isStacked_17 ⟨zr (by omega), rfl, rfl, rfl, rfl, rfl⟩
  · refine z_iconst C dX4_isStacked_12 ?_
    refine z_goto C (tgt := 17) dX4_isStacked_13 (by decide) ?_
    exact z_zret2 C hQ rfl (by first | exact Or.inl rfl | exact Or.inr rfl | exact b2i_c | omega) dX4_isStacked_17 ⟨zr (by omega), rfl, rfl, rfl, rfl, rfl⟩

set_option maxHeartbeats 4000000 in
set_option maxRecDepth 100000 in
theorem mX4_massOf (l : Launch) (G : GG) {z : Nat} {K N : Nat → Nat} {I : MI} {R : MR} {t : Nat} (hM : ShT G z K N R t) {f : Nat → Int} (hV : TN I t f) (hO : Ok f) {sm : Int} (hs : 0 ≤ sm ∧ sm < 2147483648) : Cod l G yX4_massOf (Cond.code yX4_massOf cX4_massOf 4 (some .int) :: wsL_law) ⟨0, 0, 0, 0⟩ [.ref t, .int (zI sm)] z K N I R (some (.int (zI (massA f sm)))) I R := by
  refine Con.of (own := RX4) (cc := cX4_massOf) (maxL := 4) (ret := (some .int)) (by decide +kernel) rfl rfl (Nat.le_of_ble_eq_true rfl) (by decide) rfl ?_
  intro p e9 s mt args below meth c Q hin hQ C
  obtain ⟨ho, ⟨r0, r1, r2⟩, ⟨k1, k2, k3⟩, ⟨n1, n2, n3⟩, hg⟩ := id hM
  obtain ⟨⟨v0, v1, v2⟩, ⟨v3, v4, v5⟩, vr, vg⟩ := id hV
  obtain ⟨b0, b1, b2, b3, b4, b5, br, bg⟩ := id hO
  have b4b := Ok4 hO
  have hloop : ∀ (n i : Nat), (i : Int) ≤ I t 3 → I t 3 - i < n → Zq p l e9 ⟨0, 0, 0, 0⟩ s mt args below meth c G 4 Q 0 0 z K N I R 5 [(0, .ref t), (1, .int (zI sm)), (2, .int (zI (massS (fun r => I (t + 2) r) sm i))), (3, .int (zI (i : Int)))] [] := by
    intro n
    induction n with
    | zero => intro i h1 h2; exact absurd h2 (by omega)
    | succ n ih =>
      intro i h1 h2
      refine z_iload_n C dX4_massOf_5 rfl ?_
      refine z_aload_n C dX4_massOf_6 rfl ?_
      refine z_gI C (ci := 4) (k := 3) rfl (by decide) rfl (by decide) wl_4 wq_5_3 rfl dX4_massOf_7 (by assumption) ?_
      refine z_icmp_ge C (tgt := 37) dX4_massOf_10 (by decide) (by first | omega | exact b2i_r) (by first | omega | exact b2i_r) (fun h10 => ?_) (fun h10 => ?_)
      · refine z_iload_n C dX4_massOf_37 rfl ?_
        exact z_iret2 C hQ rfl dX4_massOf_38 ⟨zr (by rw [← hV.mass hO, show (I t 3).toNat = i by omega]), rfl, rfl, rfl, rfl, rfl⟩
      · refine z_iload_n C dX4_massOf_13 rfl ?_
        refine z_iload_n C dX4_massOf_14 rfl ?_
        refine z_ishr C dX4_massOf_15 (zI_shr (by omega) (by omega)) ?_
        refine z_iconst C dX4_massOf_16 ?_
        refine z_iand C dX4_massOf_17 (zI_and1 _) ?_
        refine z_iconst C dX4_massOf_18 ?_
        refine z_icmp_ne C (tgt := 31) dX4_massOf_19 (by decide) (by first | omega | exact b2i_r) (by first | omega | exact b2i_r) (fun h19 => ?_) (fun h19 => ?_)
        · refine z_conv (lv' := [(0, .ref t), (1, .int (zI sm)), (2, .int (zI (massS (fun r => I (t + 2) r) sm (i + 1)))), (3, .int (zI (i : Int)))]) rfl rfl (congrArg (fun x => [(0, Value.ref t), (1, Value.int (zI sm)), (2, Value.int (zI x)), (3, Value.int (zI (i : Int)))]) (by show _ = massS (fun r => I (t + 2) r) sm i + sm / 2 ^ i % 2 * I (t + 2) i; have h9 : sm / 2 ^ (i : Int).toNat % 2 = sm / 2 ^ i % 2 := rfl; rcases bit01 (sm / 2 ^ i) with e | e <;> rw [e] <;> omega)) rfl ?_
          refine z_iinc C dX4_massOf_31 rfl (by decide) rfl ?_
          refine z_goto C (tgt := 5) dX4_massOf_34 (by decide) ?_
          rw [show (i : Int) + 1 = ((i + 1 : Nat) : Int) by omega]
          exact ih (i + 1) (by omega) (by omega)
        · refine z_iload_n C dX4_massOf_22 rfl ?_
          refine z_aload_n C dX4_massOf_23 rfl ?_
          refine z_gR C (ci := 4) (k := 1) rfl (by decide) rfl (by decide) wl_4 wq_2_18 (by decide) dX4_massOf_24 (by assumption) (by assumption) ?_
          refine z_iload_n C dX4_massOf_27 rfl ?_
          refine z_ialdk C (i) dX4_massOf_28 (by assumption) (by first | rfl | omega) (by omega) (by omega) ?_
          refine z_iadd C dX4_massOf_29 ?_
          refine z_istore_n C dX4_massOf_30 (by decide) rfl ?_
          refine z_conv (lv' := [(0, .ref t), (1, .int (zI sm)), (2, .int (zI (massS (fun r => I (t + 2) r) sm (i + 1)))), (3, .int (zI (i : Int)))]) rfl rfl (congrArg (fun x => [(0, Value.ref t), (1, Value.int (zI sm)), (2, Value.int (zI x)), (3, Value.int (zI (i : Int)))]) (by show _ = massS (fun r => I (t + 2) r) sm i + sm / 2 ^ i % 2 * I (t + 2) i; have h9 : sm / 2 ^ (i : Int).toNat % 2 = sm / 2 ^ i % 2 := rfl; rcases bit01 (sm / 2 ^ i) with e | e <;> rw [e] <;> omega)) rfl ?_
          refine z_iinc C dX4_massOf_31 rfl (by decide) rfl ?_
          refine z_goto C (tgt := 5) dX4_massOf_34 (by decide) ?_
          rw [show (i : Int) + 1 = ((i + 1 : Nat) : Int) by omega]
          exact ih (i + 1) (by omega) (by omega)
  refine z_bipush C dX4_massOf_0 (by decide) ?_
  refine z_istore_n C dX4_massOf_2 (by decide) rfl ?_
  refine z_iconst C dX4_massOf_3 ?_
  refine z_istore_n C dX4_massOf_4 (by decide) rfl ?_
  exact hloop 15 0 (by omega) (by omega)

set_option maxHeartbeats 4000000 in
set_option maxRecDepth 100000 in
theorem mX4_pressureOf (l : Launch) (G : GG) {z : Nat} {K N : Nat → Nat} {I : MI} {R : MR} {t : Nat} (hM : ShT G z K N R t) {f : Nat → Int} (hV : TN I t f) (hO : Ok f) {m air : Int} (hm : 100 ≤ m ∧ m ≤ 140086) (ha : 0 ≤ air ∧ air ≤ 9) : Cod l G yX4_pressureOf (Cond.code yX4_pressureOf cX4_pressureOf 3 (some .int) :: wsL_law) ⟨2, 0, 0, 42⟩ [.ref t, .int (zI m), .int (zI air)] z K N I R (some (.int (zI (prs m air (f 1))))) I R := by
  refine Con.of (own := RX4) (cc := cX4_pressureOf) (maxL := 3) (ret := (some .int)) (by decide +kernel) rfl rfl (Nat.le_of_ble_eq_true rfl) (by decide) rfl ?_
  intro p e9 s mt args below meth c Q hin hQ C
  obtain ⟨ho, ⟨r0, r1, r2⟩, ⟨k1, k2, k3⟩, ⟨n1, n2, n3⟩, hg⟩ := id hM
  obtain ⟨⟨v0, v1, v2⟩, ⟨v3, v4, v5⟩, vr, vg⟩ := id hV
  obtain ⟨b0, b1, b2, b3, b4, b5, br, bg⟩ := id hO
  have b4b := Ok4 hO
  have hr := wgt_rng hm ha
  refine z_iload_n C dX4_pressureOf_0 rfl ?_
  refine z_iload_n C dX4_pressureOf_1 rfl ?_
  refine z_callSNd C (host := RX6) (mX6_weightOf l G hm ha) ⟨va_cnB 2 C.2.2.2.2.1 gn_X6_weightOf rfl rfl rfl (znw C.2.2.2.2.2.2.2.1 4 rfl) (C.2.2.2.2.1 _ wq_1_2) hs_X6_weightOf ⟨Nat.le_of_ble_eq_true rfl, Nat.le_of_ble_eq_true rfl⟩, C.2.2.2.2.1 _ wq_6_16, trivial⟩ rfl rfl (Nat.le_of_ble_eq_true rfl) dX4_pressureOf_2 ⟨Nat.zero_le _, Nat.zero_le _⟩ ?_
  refine z_bipush C dX4_pressureOf_5 (by decide) ?_
  refine z_imul C dX4_pressureOf_7 ?_
  refine z_aload_n C dX4_pressureOf_8 rfl ?_
  refine z_gR C (ci := 4) (k := 0) rfl (by decide) rfl (by decide) wl_4 wq_2_16 (by decide) dX4_pressureOf_9 (by assumption) (by assumption) ?_
  refine z_iconst C dX4_pressureOf_12 ?_
  refine z_ialdk C (1) dX4_pressureOf_13 (by assumption) (by first | rfl | omega) (by omega) (by omega) ?_
  rw [v1]
  refine z_callSNd C (host := RX6) (mX6_dividedDown l G (by omega) (by omega)) ⟨va_cnB 2 C.2.2.2.2.1 gn_X6_dividedDown rfl rfl rfl (znw C.2.2.2.2.2.2.2.1 5 rfl) (C.2.2.2.2.1 _ wq_1_2) hs_X6_dividedDown ⟨Nat.le_of_ble_eq_true rfl, Nat.le_of_ble_eq_true rfl⟩, C.2.2.2.2.1 _ wq_6_22, trivial⟩ rfl rfl (Nat.le_of_ble_eq_true rfl) dX4_pressureOf_14 ⟨Nat.zero_le _, Nat.zero_le _⟩ ?_
  exact z_iret2 C hQ rfl dX4_pressureOf_17 ⟨rfl, rfl, rfl, rfl, rfl, rfl⟩

set_option maxHeartbeats 4000000 in
set_option maxRecDepth 100000 in
theorem mX4_columnPressure (l : Launch) (G : GG) {z : Nat} {K N : Nat → Nat} {I : MI} {R : MR} {t : Nat} (hM : ShT G z K N R t) {f : Nat → Int} (hV : TN I t f) (hO : Ok f)  : Cod l G yX4_columnPressure (Cond.code yX4_columnPressure cX4_columnPressure 1 (some .int) :: wsL_law) ⟨3, 0, 0, 64⟩ [.ref t] z K N I R (some (.int (zI (prsA f (f 4))))) I R := by
  refine Con.of (own := RX4) (cc := cX4_columnPressure) (maxL := 1) (ret := (some .int)) (by decide +kernel) rfl rfl (Nat.le_of_ble_eq_true rfl) (by decide) rfl ?_
  intro p e9 s mt args below meth c Q hin hQ C
  obtain ⟨ho, ⟨r0, r1, r2⟩, ⟨k1, k2, k3⟩, ⟨n1, n2, n3⟩, hg⟩ := id hM
  obtain ⟨⟨v0, v1, v2⟩, ⟨v3, v4, v5⟩, vr, vg⟩ := id hV
  obtain ⟨b0, b1, b2, b3, b4, b5, br, bg⟩ := id hO
  have b4b := Ok4 hO
  refine z_aload_n C dX4_columnPressure_0 rfl ?_
  refine z_aload_n C dX4_columnPressure_1 rfl ?_
  refine z_aload_n C dX4_columnPressure_2 rfl ?_
  refine z_gI C (ci := 4) (k := 4) rfl (by decide) rfl (by decide) wl_4 wq_5_4 rfl dX4_columnPressure_3 (by assumption) ?_
  rw [v4]
  refine z_callVd C (ci := 4) rfl (by decide) (by first | assumption | exact hM.1) (mX4_massOf l G hM hV hO (by omega)) (cwV 1 C.2.2.2.2.1 gv4_120 rfl rfl rfl hd_X4_massOf ⟨Nat.le_of_ble_eq_true rfl, Nat.le_of_ble_eq_true rfl⟩) rfl rfl (Nat.le_of_ble_eq_true rfl) dX4_columnPressure_6 ⟨Nat.zero_le _, Nat.zero_le _⟩ ?_
  refine z_aload_n C dX4_columnPressure_9 rfl ?_
  refine z_gR C (ci := 4) (k := 0) rfl (by decide) rfl (by decide) wl_4 wq_2_16 (by decide) dX4_columnPressure_10 (by assumption) (by assumption) ?_
  refine z_iconst C dX4_columnPressure_13 ?_
  refine z_ialdk C (0) dX4_columnPressure_14 (by assumption) (by first | rfl | omega) (by omega) (by omega) ?_
  rw [v0]
  refine z_callVd C (ci := 4) rfl (by decide) (by first | assumption | exact hM.1) (mX4_pressureOf l G hM hV hO (massA_rng hO _) b0) (cwV 2 C.2.2.2.2.1 gv4_124 rfl rfl rfl hd_X4_pressureOf ⟨Nat.le_of_ble_eq_true rfl, Nat.le_of_ble_eq_true rfl⟩) rfl rfl (Nat.le_of_ble_eq_true rfl) dX4_columnPressure_15 ⟨Nat.zero_le _, Nat.zero_le _⟩ ?_
  exact z_iret2 C hQ rfl dX4_columnPressure_18 ⟨rfl, rfl, rfl, rfl, rfl, rfl⟩

set_option maxHeartbeats 4000000 in
set_option maxRecDepth 100000 in
theorem mX4_gaugeAt (l : Launch) (G : GG) {z : Nat} {K N : Nat → Nat} {I : MI} {R : MR} {t : Nat} (hM : ShT G z K N R t) {f : Nat → Int} (hV : TN I t f) (hO : Ok f) {q : Int} (hq : -2147483648 ≤ q ∧ q < 2147483648) : Cod l G yX4_gaugeAt (Cond.code yX4_gaugeAt cX4_gaugeAt 2 (some (.object "GaugeColumns$Gauge")) :: wsL_law) ⟨0, 0, 0, 0⟩ [.ref t, .int (zI q)] z K N I R (some (va_rf (if 0 ≤ q ∧ q ≤ I t 5 - 1 then some (t + 4 + q.toNat) else none))) I R := by
  refine Con.of (own := RX4) (cc := cX4_gaugeAt) (maxL := 2) (ret := (some (.object "GaugeColumns$Gauge"))) (by decide +kernel) rfl rfl (Nat.le_of_ble_eq_true rfl) (by decide) rfl ?_
  intro p e9 s mt args below meth c Q hin hQ C
  obtain ⟨ho, ⟨r0, r1, r2⟩, ⟨k1, k2, k3⟩, ⟨n1, n2, n3⟩, hg⟩ := id hM
  obtain ⟨⟨v0, v1, v2⟩, ⟨v3, v4, v5⟩, vr, vg⟩ := id hV
  obtain ⟨b0, b1, b2, b3, b4, b5, br, bg⟩ := id hO
  have b4b := Ok4 hO
  refine z_iload_n C dX4_gaugeAt_0 rfl ?_
  refine z_if_lt C (tgt := 12) dX4_gaugeAt_1 (by decide) (by first | omega | exact b2i_r) (fun h1 => ?_) (fun h1 => ?_)
  · refine z_mem rfl rfl ?_
    refine z_null C dX4_gaugeAt_12 ?_
    refine z_goto C (tgt := 22) dX4_gaugeAt_13 (by decide) ?_
    first
    | refine z_top (y := va_rf (if 0 ≤ q ∧ q ≤ I t 5 - 1 then some (t + 4 + q.toNat) else none)) (by rw [if_neg (by omega)]; rfl) ?_
    | refine z_top (y := va_rf (if 0 ≤ (n9 : Int) ∧ (n9 : Int) ≤ I t 5 - 1 then some (t + 4 + (n9 : Int).toNat) else none)) (by rw [if_pos (by omega), (hg n9 (by omega)).2]; rfl) ?_
    exact z_aret2 C hQ rfl (by first | exact Or.inl ⟨_, rfl⟩ | exact Or.inr ⟨_, rfl⟩) dX4_gaugeAt_22 ⟨rfl, rfl, rfl, rfl, rfl, rfl⟩
  · refine z_iload_n C dX4_gaugeAt_4 rfl ?_
    refine z_aload_n C dX4_gaugeAt_5 rfl ?_
    refine z_gI C (ci := 4) (k := 5) rfl (by decide) rfl (by decide) wl_4 wq_5_5 rfl dX4_gaugeAt_6 (by assumption) ?_
    refine z_icmp_lt C (tgt := 16) dX4_gaugeAt_9 (by decide) (by first | omega | exact b2i_r) (by first | omega | exact b2i_r) (fun h9 => ?_) (fun h9 => ?_)
    · refine z_aload_n C dX4_gaugeAt_16 rfl ?_
      obtain ⟨n9, rfl⟩ := Int.eq_ofNat_of_zero_le (show 0 ≤ q by omega)
      refine z_gR C (ci := 4) (k := 2) rfl (by decide) rfl (by decide) wl_4 wq_2_20 (by decide) dX4_gaugeAt_17 (by assumption) (by assumption) ?_
      refine z_iload_n C dX4_gaugeAt_20 rfl ?_
      refine z_aaldk C (n9) 10 (by decide) dX4_gaugeAt_21 (by assumption) (by first | rfl | omega) (by omega) (by omega) ?_
      first
      | refine z_top (y := va_rf (if 0 ≤ q ∧ q ≤ I t 5 - 1 then some (t + 4 + q.toNat) else none)) (by rw [if_neg (by omega)]; rfl) ?_
      | refine z_top (y := va_rf (if 0 ≤ (n9 : Int) ∧ (n9 : Int) ≤ I t 5 - 1 then some (t + 4 + (n9 : Int).toNat) else none)) (by rw [if_pos (by omega), (hg n9 (by omega)).2]; rfl) ?_
      exact z_aret2 C hQ rfl (by first | exact Or.inl ⟨_, rfl⟩ | exact Or.inr ⟨_, rfl⟩) dX4_gaugeAt_22 ⟨rfl, rfl, rfl, rfl, rfl, rfl⟩
    · refine z_mem rfl rfl ?_
      refine z_null C dX4_gaugeAt_12 ?_
      refine z_goto C (tgt := 22) dX4_gaugeAt_13 (by decide) ?_
      first
      | refine z_top (y := va_rf (if 0 ≤ q ∧ q ≤ I t 5 - 1 then some (t + 4 + q.toNat) else none)) (by rw [if_neg (by omega)]; rfl) ?_
      | refine z_top (y := va_rf (if 0 ≤ (n9 : Int) ∧ (n9 : Int) ≤ I t 5 - 1 then some (t + 4 + (n9 : Int).toNat) else none)) (by rw [if_pos (by omega), (hg n9 (by omega)).2]; rfl) ?_
      exact z_aret2 C hQ rfl (by first | exact Or.inl ⟨_, rfl⟩ | exact Or.inr ⟨_, rfl⟩) dX4_gaugeAt_22 ⟨rfl, rfl, rfl, rfl, rfl, rfl⟩

set_option maxHeartbeats 4000000 in
set_option maxRecDepth 100000 in
theorem mX4_voidCertificates (l : Launch) (G : GG) {z : Nat} {K N : Nat → Nat} {I : MI} {R : MR} {t : Nat} (hM : ShT G z K N R t) {f : Nat → Int} (hV : TN I t f) (hO : Ok f)  : Cod l G yX4_voidCertificates (Cond.code yX4_voidCertificates cX4_voidCertificates 2 none :: wsL_law) ⟨0, 0, 0, 0⟩ [.ref t] z K N I R none I (voR R t (f 5).toNat) := by
  refine Con.of (own := RX4) (cc := cX4_voidCertificates) (maxL := 2) (ret := none) (by decide +kernel) rfl rfl (Nat.le_of_ble_eq_true rfl) (by decide) rfl ?_
  intro p e9 s mt args below meth c Q hin hQ C
  obtain ⟨ho, ⟨r0, r1, r2⟩, ⟨k1, k2, k3⟩, ⟨n1, n2, n3⟩, hg⟩ := id hM
  obtain ⟨⟨v0, v1, v2⟩, ⟨v3, v4, v5⟩, vr, vg⟩ := id hV
  obtain ⟨b0, b1, b2, b3, b4, b5, br, bg⟩ := id hO
  have b4b := Ok4 hO
  have hloop : ∀ (n i : Nat), (i : Int) ≤ I t 5 → I t 5 - i < n → Zq p l e9 ⟨0, 0, 0, 0⟩ s mt args below meth c G 2 Q 0 0 z K N I (voR R t i) 2 [(0, .ref t), (1, .int (zI (i : Int)))] [] := by
    intro n
    induction n with
    | zero => intro i h1 h2; exact absurd h2 (by omega)
    | succ n ih =>
      intro i h1 h2
      have r02 : voR R t i t 2 = some (t + 3) := by rw [voR_n _ _ _ _ _ (by omega)]; exact r2
      refine z_iload_n C dX4_voidCertificates_2 rfl ?_
      refine z_aload_n C dX4_voidCertificates_3 rfl ?_
      refine z_gI C (ci := 4) (k := 5) rfl (by decide) rfl (by decide) wl_4 wq_5_5 rfl dX4_voidCertificates_4 (by assumption) ?_
      refine z_icmp_ge C (tgt := 26) dX4_voidCertificates_7 (by decide) (by first | omega | exact b2i_r) (by first | omega | exact b2i_r) (fun h7 => ?_) (fun h7 => ?_)
      · exact z_vret2 C hQ rfl dX4_voidCertificates_26 ⟨rfl, rfl, rfl, rfl, rfl, by rw [show (f 5).toNat = i by omega]⟩
      · refine z_aload_n C dX4_voidCertificates_10 rfl ?_
        refine z_gR C (ci := 4) (k := 2) rfl (by decide) rfl (by decide) wl_4 wq_2_20 (by decide) dX4_voidCertificates_11 (by assumption) (by assumption) ?_
        refine z_iload_n C dX4_voidCertificates_14 rfl ?_
        refine z_aaldk C (i) 10 (by decide) dX4_voidCertificates_15 (by assumption) (by first | rfl | omega) (by omega) (by omega) ?_
        refine z_top (y := .ref (t + 4 + i)) (by rw [voR_n _ _ _ _ _ (by omega), (hg i (by omega)).2]; rfl) ?_
        have kg9 := (hg i (by omega)).1
        refine z_null C dX4_voidCertificates_16 ?_
        refine z_pR (r := none) C (ci := 1) (k := 4) rfl (by decide) rfl (by decide) tyX1_ok nmX1 wl_1 wq_5_23 (by decide) (fun r => by cases r <;> exact ⟨rfl, rfl⟩) (Or.inl rfl) dX4_voidCertificates_17 (by assumption) ?_
        rw [voR_s]
        refine z_iinc C dX4_voidCertificates_20 rfl (by decide) rfl ?_
        refine z_goto C (tgt := 2) dX4_voidCertificates_23 (by decide) ?_
        rw [show (i : Int) + 1 = ((i + 1 : Nat) : Int) by omega]
        exact ih (i + 1) (by omega) (by omega)
  refine z_iconst C dX4_voidCertificates_0 ?_
  refine z_istore_n C dX4_voidCertificates_1 (by decide) rfl ?_
  refine z_mem rfl (voR_0 R t).symm ?_
  exact hloop 7 0 (by omega) (by omega)

set_option maxHeartbeats 4000000 in
set_option maxRecDepth 100000 in
theorem mX4_moveHands (l : Launch) (G : GG) {z : Nat} {K N : Nat → Nat} {I : MI} {R : MR} {t : Nat} (hM : ShT G z K N R t) {f : Nat → Int} (hV : TN I t f) (hO : Ok f)  : Cod l G yX4_moveHands (Cond.code yX4_moveHands cX4_moveHands 3 (some .int) :: wsL_law) ⟨4, 0, 0, 84⟩ [.ref t] z K N I R (some (.int (zI (prsA f (f 4))))) (haI I t (prsA f (f 4)) (f 5).toNat) R := by
  refine Con.of (own := RX4) (cc := cX4_moveHands) (maxL := 3) (ret := (some .int)) (by decide +kernel) rfl rfl (Nat.le_of_ble_eq_true rfl) (by decide) rfl ?_
  intro p e9 s mt args below meth c Q hin hQ C
  obtain ⟨ho, ⟨r0, r1, r2⟩, ⟨k1, k2, k3⟩, ⟨n1, n2, n3⟩, hg⟩ := id hM
  obtain ⟨⟨v0, v1, v2⟩, ⟨v3, v4, v5⟩, vr, vg⟩ := id hV
  obtain ⟨b0, b1, b2, b3, b4, b5, br, bg⟩ := id hO
  have b4b := Ok4 hO
  have hloop : ∀ (n i : Nat), (i : Int) ≤ f 5 → f 5 - i < n → Zq p l e9 ⟨4, 0, 0, 84⟩ s mt args below meth c G 3 Q 0 0 z K N (haI I t (prsA f (f 4)) i) R 7 [(0, .ref t), (1, .int (zI (prsA f (f 4)))), (2, .int (zI (i : Int)))] [] := by
    intro n
    induction n with
    | zero => intro i h1 h2; exact absurd h2 (by omega)
    | succ n ih =>
      intro i h1 h2
      refine z_iload_n C dX4_moveHands_7 rfl ?_
      refine z_aload_n C dX4_moveHands_8 rfl ?_
      refine z_gI C (ci := 4) (k := 5) rfl (by decide) rfl (by decide) wl_4 wq_5_5 rfl dX4_moveHands_9 (by assumption) ?_
      rw [haI_n _ _ _ _ _ _ (by omega)]
      refine z_icmp_ge C (tgt := 31) dX4_moveHands_12 (by decide) (by first | omega | exact b2i_r) (by first | omega | exact b2i_r) (fun h12 => ?_) (fun h12 => ?_)
      · refine z_iload_n C dX4_moveHands_31 rfl ?_
        exact z_iret2 C hQ rfl dX4_moveHands_32 ⟨rfl, rfl, rfl, rfl, by rw [show (f 5).toNat = i by omega], rfl⟩
      · refine z_aload_n C dX4_moveHands_15 rfl ?_
        refine z_gR C (ci := 4) (k := 2) rfl (by decide) rfl (by decide) wl_4 wq_2_20 (by decide) dX4_moveHands_16 (by assumption) (by assumption) ?_
        refine z_iload_n C dX4_moveHands_19 rfl ?_
        refine z_aaldk C (i) 10 (by decide) dX4_moveHands_20 (by assumption) (by first | rfl | omega) (by omega) (by omega) ?_
        obtain ⟨g0, g1, g2, g3⟩ := vg i (by omega)
        obtain ⟨c0, c1, c2, c3, c4⟩ := bg i (by omega)
        refine z_top (y := .ref (t + 4 + i)) (by rw [(hg i (by omega)).2]; rfl) ?_
        have kg9 := (hg i (by omega)).1
        refine z_iload_n C dX4_moveHands_21 rfl ?_
        refine z_callVd C (ci := 1) rfl (by decide) (by first | assumption | exact hM.1) (mX1_follow l G kg9 (prsA_rng hO _) (by rw [haI_n _ _ _ _ _ _ (by omega)]; omega) (by rw [haI_n _ _ _ _ _ _ (by omega)]; omega) (by rw [haI_n _ _ _ _ _ _ (by omega)]; omega)) (cwV 1 C.2.2.2.2.1 gv4_80 rfl rfl rfl hd_X1_follow ⟨Nat.le_of_ble_eq_true rfl, Nat.le_of_ble_eq_true rfl⟩) rfl rfl (Nat.le_of_ble_eq_true rfl) dX4_moveHands_22 ⟨Nat.zero_le _, Nat.zero_le _⟩ ?_
        rw [haI_s]
        refine z_iinc C dX4_moveHands_25 rfl (by decide) rfl ?_
        refine z_goto C (tgt := 7) dX4_moveHands_28 (by decide) ?_
        rw [show (i : Int) + 1 = ((i + 1 : Nat) : Int) by omega]
        exact ih (i + 1) (by omega) (by omega)
  refine z_aload_n C dX4_moveHands_0 rfl ?_
  refine z_callVd C (ci := 4) rfl (by decide) (by first | assumption | exact hM.1) (mX4_columnPressure l G hM hV hO) (cwV 0 C.2.2.2.2.1 gv4_77 rfl rfl rfl hd_X4_columnPressure ⟨Nat.le_of_ble_eq_true rfl, Nat.le_of_ble_eq_true rfl⟩) rfl rfl (Nat.le_of_ble_eq_true rfl) dX4_moveHands_1 ⟨Nat.zero_le _, Nat.zero_le _⟩ ?_
  refine z_istore_n C dX4_moveHands_4 (by decide) rfl ?_
  refine z_iconst C dX4_moveHands_5 ?_
  refine z_istore_n C dX4_moveHands_6 (by decide) rfl ?_
  refine z_mem (haI_0 I t (prsA f (f 4))).symm rfl ?_
  exact hloop 7 0 (by omega) (by omega)

