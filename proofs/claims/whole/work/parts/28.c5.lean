def cpI (I : MI) (t u n : Nat) : MI := fun a => if a = t + 1 then zcpy (I (u + 1)) (I (t + 1)) 0 0 3 else if a = t + 2 then zcpy (I (u + 2)) (I (t + 2)) 0 0 14 else if t + 4 ≤ a ∧ a < t + 4 + n then st1 (st1 (st1 (st1 (I a) 0 (I (u + 4 + (a - (t + 4))) 0)) 1 (I (u + 4 + (a - (t + 4))) 1)) 2 (I (u + 4 + (a - (t + 4))) 2)) 3 (I (u + 4 + (a - (t + 4))) 3) else I a
def cpR (R : MR) (t u n : Nat) : MR := fun a j => if t + 4 ≤ a ∧ a < t + 4 + n ∧ j = 4 then R (u + 4 + (a - (t + 4))) 4 else R a j
def copI (I : MI) (t u : Nat) : MI := u2 (u2 (u2 (cpI I t u 6) t 3 (I u 3)) t 4 (I u 4)) t 5 (I u 5)
theorem cpI_0 (I : MI) (t u : Nat) : va_up (va_up I (t + 1) (zcpy (I (u + 1)) (I (t + 1)) 0 0 3)) (t + 2) (zcpy (I (u + 2)) (I (t + 2)) 0 0 14) = cpI I t u 0 := by
  funext a
  unfold cpI
  by_cases h2 : a = t + 2
  · subst h2
    rw [va_up_s, if_neg (by omega), if_pos rfl]
  · rw [va_up_n h2]
    by_cases h1 : a = t + 1
    · subst h1
      rw [va_up_s, if_pos rfl]
    · rw [va_up_n h1, if_neg h1, if_neg h2, if_neg (by omega)]
theorem cpR_0 (R : MR) (t u : Nat) : cpR R t u 0 = R := by
  funext a j
  exact if_neg (by omega)
theorem cpI_n (I : MI) (t u n a : Nat) (h1 : ¬ a = t + 1) (h2 : ¬ a = t + 2) (h3 : ¬ (t + 4 ≤ a ∧ a < t + 4 + n)) : cpI I t u n a = I a := by
  unfold cpI
  rw [if_neg h1, if_neg h2, if_neg h3]
theorem cpR_n (R : MR) (t u n a j : Nat) (h : ¬ (t + 4 ≤ a ∧ a < t + 4 + n ∧ j = 4)) : cpR R t u n a j = R a j := if_neg h
theorem cpI_s (I : MI) (t u n : Nat) (hd : t + 10 ≤ u ∨ u + 10 ≤ t) (hn : n < 6) : va_up (cpI I t u n) (t + 4 + n) (st1 (st1 (st1 (st1 (cpI I t u n (t + 4 + n)) 0 (cpI I t u n (u + 4 + n) 0)) 1 (cpI I t u n (u + 4 + n) 1)) 2 (cpI I t u n (u + 4 + n) 2)) 3 (cpI I t u n (u + 4 + n) 3)) = cpI I t u (n + 1) := by
  rw [cpI_n I t u n (t + 4 + n) (by omega) (by omega) (by omega), cpI_n I t u n (u + 4 + n) (by omega) (by omega) (by omega)]
  funext a
  by_cases ha : a = t + 4 + n
  · subst ha
    rw [va_up_s]
    unfold cpI
    rw [if_neg (by omega), if_neg (by omega), if_pos (by omega), show u + 4 + (t + 4 + n - (t + 4)) = u + 4 + n by omega]
  · rw [va_up_n ha]
    unfold cpI
    by_cases h : t + 4 ≤ a ∧ a < t + 4 + n
    · rw [if_pos h, if_pos (show t + 4 ≤ a ∧ a < t + 4 + (n + 1) by omega)]
    · rw [if_neg h, if_neg (show ¬ (t + 4 ≤ a ∧ a < t + 4 + (n + 1)) by omega)]
theorem cpR_s (R : MR) (t u n : Nat) (hd : t + 10 ≤ u ∨ u + 10 ≤ t) (hn : n < 6) : u2 (cpR R t u n) (t + 4 + n) 4 (cpR R t u n (u + 4 + n) 4) = cpR R t u (n + 1) := by
  rw [cpR_n R t u n (u + 4 + n) 4 (by omega)]
  funext a j
  by_cases ha : a = t + 4 + n
  · subst ha
    by_cases hj : j = 4
    · subst hj
      rw [u2_s]
      unfold cpR
      rw [if_pos (by omega), show u + 4 + (t + 4 + n - (t + 4)) = u + 4 + n by omega]
    · rw [u2_k hj, cpR_n _ _ _ _ _ _ (by omega), cpR_n _ _ _ _ _ _ (by omega)]
  · rw [u2_row ha]
    unfold cpR
    by_cases h : t + 4 ≤ a ∧ a < t + 4 + n ∧ j = 4
    · rw [if_pos h, if_pos (by omega)]
    · rw [if_neg h, if_neg (by omega)]
/-- the history at b, its seven testers behind it -/
def ShH (G : GG) (z : Nat) (K N : Nat → Nat) (R : MR) (b : Nat) : Prop :=
  zK G z K b 2 ∧ R b 0 = some (b + 1) ∧ zK G z K (b + 1) 11 ∧ N (b + 1) = 7 ∧ ∀ i : Nat, i < 7 → ShT G z K N R (b + 2 + 10 * i) ∧ R (b + 1) i = some (b + 2 + 10 * i)
set_option maxHeartbeats 4000000 in
set_option maxRecDepth 100000 in
theorem mX4_copyFrom (l : Launch) (G : GG) {z : Nat} {K N : Nat → Nat} {I : MI} {R : MR} {t u : Nat} (hM : ShT G z K N R t) (hM2 : ShT G z K N R u) (hd : t + 10 ≤ u ∨ u + 10 ≤ t) : Cod l G yX4_copyFrom (Cond.code yX4_copyFrom cX4_copyFrom 3 none :: wsL_law) ⟨1, 0, 0, 26⟩ [.ref t, .ref u] z K N I R none (copI I t u) (cpR R t u 6) := by
  refine Con.of (own := RX4) (cc := cX4_copyFrom) (maxL := 3) (ret := none) (by decide +kernel) rfl rfl (Nat.le_of_ble_eq_true rfl) (by decide) rfl ?_
  intro p e9 s mt args below meth c Q hin hQ C
  obtain ⟨ho, ⟨r0, r1, r2⟩, ⟨k1, k2, k3⟩, ⟨n1, n2, n3⟩, hg⟩ := id hM
  obtain ⟨ho2, ⟨s0, s1, s2⟩, ⟨l1, l2, l3⟩, ⟨m1, m2, m3⟩, hg2⟩ := id hM2
  have hloop : ∀ (n i : Nat), i ≤ 6 → 6 - i < n → Zq p l e9 ⟨1, 0, 0, 26⟩ s mt args below meth c G 3 Q 0 0 z K N (cpI I t u i) (cpR R t u i) 35 [(0, .ref t), (1, .ref u), (2, .int (zI (i : Int)))] [] := by
    intro n
    induction n with
    | zero => intro i h1 h2; exact absurd h2 (by omega)
    | succ n ih =>
      intro i h1 h2
      have ra : cpR R t u i t 2 = some (t + 3) := by rw [cpR_n _ _ _ _ _ _ (by omega)]; exact r2
      have rb : cpR R t u i u 2 = some (u + 3) := by rw [cpR_n _ _ _ _ _ _ (by omega)]; exact s2
      refine z_iload_n C dX4_copyFrom_35 rfl ?_
      refine z_bipush C dX4_copyFrom_36 (by decide) ?_
      refine z_icmp_ge C (tgt := 62) dX4_copyFrom_38 (by decide) (by first | omega | exact b2i_r) (by first | omega | exact b2i_r) (fun h38 => ?_) (fun h38 => ?_)
      · refine z_aload_n C dX4_copyFrom_62 rfl ?_
        refine z_aload_n C dX4_copyFrom_63 rfl ?_
        refine z_gI C (ci := 4) (k := 3) rfl (by decide) rfl (by decide) wl_4 wq_5_3 rfl dX4_copyFrom_64 (by assumption) ?_
        rw [cpI_n _ _ _ _ _ (by omega) (by omega) (by omega)]
        refine z_pI C (ci := 4) (k := 3) rfl (by decide) rfl (by decide) tyX4_ok nmX4 wl_4 wq_5_3 rfl (Or.inl rfl) dX4_copyFrom_67 (by assumption) ?_
        refine z_aload_n C dX4_copyFrom_70 rfl ?_
        refine z_aload_n C dX4_copyFrom_71 rfl ?_
        refine z_gI C (ci := 4) (k := 4) rfl (by decide) rfl (by decide) wl_4 wq_5_4 rfl dX4_copyFrom_72 (by assumption) ?_
        rw [u2_row (by omega), cpI_n _ _ _ _ _ (by omega) (by omega) (by omega)]
        refine z_pI C (ci := 4) (k := 4) rfl (by decide) rfl (by decide) tyX4_ok nmX4 wl_4 wq_5_4 rfl (Or.inl rfl) dX4_copyFrom_75 (by assumption) ?_
        refine z_aload_n C dX4_copyFrom_78 rfl ?_
        refine z_aload_n C dX4_copyFrom_79 rfl ?_
        refine z_gI C (ci := 4) (k := 5) rfl (by decide) rfl (by decide) wl_4 wq_5_5 rfl dX4_copyFrom_80 (by assumption) ?_
        rw [u2_row (by omega), u2_row (by omega), cpI_n _ _ _ _ _ (by omega) (by omega) (by omega)]
        refine z_pI C (ci := 4) (k := 5) rfl (by decide) rfl (by decide) tyX4_ok nmX4 wl_4 wq_5_5 rfl (Or.inl rfl) dX4_copyFrom_83 (by assumption) ?_
        exact z_vret2 C hQ rfl dX4_copyFrom_86 ⟨rfl, rfl, rfl, rfl, by rw [show i = 6 by omega]; rfl, by rw [show i = 6 by omega]⟩
      · refine z_aload_n C dX4_copyFrom_41 rfl ?_
        refine z_gR C (ci := 4) (k := 2) rfl (by decide) rfl (by decide) wl_4 wq_2_20 (by decide) dX4_copyFrom_42 (by assumption) (by assumption) ?_
        refine z_iload_n C dX4_copyFrom_45 rfl ?_
        refine z_aaldk C (i) 10 (by decide) dX4_copyFrom_46 (by assumption) (by first | rfl | omega) (by omega) (by omega) ?_
        have kg9 := (hg i (by omega)).1
        have kg8 := (hg2 i (by omega)).1
        refine z_top (y := .ref (t + 4 + i)) (by rw [cpR_n _ _ _ _ _ _ (by omega), (hg i (by omega)).2]; rfl) ?_
        refine z_aload_n C dX4_copyFrom_47 rfl ?_
        refine z_gR C (ci := 4) (k := 2) rfl (by decide) rfl (by decide) wl_4 wq_2_20 (by decide) dX4_copyFrom_48 (by assumption) (by assumption) ?_
        refine z_iload_n C dX4_copyFrom_51 rfl ?_
        refine z_aaldk C (i) 10 (by decide) dX4_copyFrom_52 (by assumption) (by first | rfl | omega) (by omega) (by omega) ?_
        refine z_top (y := .ref (u + 4 + i)) (by rw [cpR_n _ _ _ _ _ _ (by omega), (hg2 i (by omega)).2]; rfl) ?_
        refine z_callVd C (ci := 1) rfl (by decide) (by first | assumption | exact hM.1) (mX1_copyFrom l G kg9 kg8 (by omega)) (cwV 1 C.2.2.2.2.1 gv4_39 rfl rfl rfl hd_X1_copyFrom ⟨Nat.le_of_ble_eq_true rfl, Nat.le_of_ble_eq_true rfl⟩) rfl rfl (Nat.le_of_ble_eq_true rfl) dX4_copyFrom_53 ⟨Nat.zero_le _, Nat.zero_le _⟩ ?_
        refine z_mem (cpI_s I t u i hd (by omega)) (cpR_s R t u i hd (by omega)) ?_
        refine z_iinc C dX4_copyFrom_56 rfl (by decide) rfl ?_
        refine z_goto C (tgt := 35) dX4_copyFrom_59 (by decide) ?_
        rw [show (i : Int) + 1 = ((i + 1 : Nat) : Int) by omega]
        exact ih (i + 1) (by omega) (by omega)
  refine z_aload_n C dX4_copyFrom_0 rfl ?_
  refine z_gR C (ci := 4) (k := 0) rfl (by decide) rfl (by decide) wl_4 wq_2_16 (by decide) dX4_copyFrom_1 (by assumption) (by assumption) ?_
  refine z_iconst C dX4_copyFrom_4 ?_
  refine z_aload_n C dX4_copyFrom_5 rfl ?_
  refine z_gR C (ci := 4) (k := 0) rfl (by decide) rfl (by decide) wl_4 wq_2_16 (by decide) dX4_copyFrom_6 (by assumption) (by assumption) ?_
  refine z_iconst C dX4_copyFrom_9 ?_
  refine z_aload_n C dX4_copyFrom_10 rfl ?_
  refine z_gR C (ci := 4) (k := 0) rfl (by decide) rfl (by decide) wl_4 wq_2_16 (by decide) dX4_copyFrom_11 (by assumption) (by assumption) ?_
  refine z_alen C dX4_copyFrom_14 (by assumption) ?_
  rw [n1]
  refine z_acopy C wq_4_23 wq_5_0 wq_5_1 wq_5_2 (by assumption) (by assumption) (by omega) (by omega) (by omega) (by omega) (by omega) (Nat.le_of_ble_eq_true rfl) (Nat.le_of_ble_eq_true rfl) dX4_copyFrom_15 ?_
  refine z_aload_n C dX4_copyFrom_18 rfl ?_
  refine z_gR C (ci := 4) (k := 1) rfl (by decide) rfl (by decide) wl_4 wq_2_18 (by decide) dX4_copyFrom_19 (by assumption) (by assumption) ?_
  refine z_iconst C dX4_copyFrom_22 ?_
  refine z_aload_n C dX4_copyFrom_23 rfl ?_
  refine z_gR C (ci := 4) (k := 1) rfl (by decide) rfl (by decide) wl_4 wq_2_18 (by decide) dX4_copyFrom_24 (by assumption) (by assumption) ?_
  refine z_iconst C dX4_copyFrom_27 ?_
  refine z_bipush C dX4_copyFrom_28 (by decide) ?_
  refine z_acopy C wq_4_23 wq_5_0 wq_5_1 wq_5_2 (by assumption) (by assumption) (by omega) (by omega) (by omega) (by omega) (by omega) (Nat.le_of_ble_eq_true rfl) (Nat.le_of_ble_eq_true rfl) dX4_copyFrom_30 ?_
  rw [va_up_n (show u + 2 ≠ t + 1 by omega), va_up_n (show t + 2 ≠ t + 1 by omega)]
  refine z_iconst C dX4_copyFrom_33 ?_
  refine z_istore_n C dX4_copyFrom_34 (by decide) rfl ?_
  refine z_mem (cpI_0 I t u) (cpR_0 R t u).symm ?_
  exact hloop 7 0 (by omega) (by omega)

set_option maxHeartbeats 4000000 in
set_option maxRecDepth 100000 in
theorem mX2_remember (l : Launch) (G : GG) {z : Nat} {K N : Nat → Nat} {I : MI} {R : MR} {b : Nat} (hM : ShH G z K N R b) {t : Nat} (hT : ShT G z K N R t) (hd : t + 10 ≤ b ∨ b + 72 ≤ t) {q : Nat} (hq : I b 1 = q) (hq7 : q < 7) : Cod l G yX2_remember (Cond.code yX2_remember cX2_remember 2 none :: wsL_law) ⟨2, 0, 0, 48⟩ [.ref b, .ref t] z K N I R none (copI I (b + 2 + 10 * q) t) (cpR R (b + 2 + 10 * q) t 6) := by
  refine Con.of (own := RX2) (cc := cX2_remember) (maxL := 2) (ret := none) (by decide +kernel) rfl rfl (Nat.le_of_ble_eq_true rfl) (by decide) rfl ?_
  intro p e9 s mt args below meth c Q hin hQ C
  obtain ⟨ho, r0, k1, n1, hs⟩ := id hM
  refine z_aload_n C dX2_remember_0 rfl ?_
  refine z_gR C (ci := 2) (k := 0) rfl (by decide) rfl (by decide) wl_2 wq_3_7 (by decide) dX2_remember_1 (by assumption) (by assumption) ?_
  refine z_aload_n C dX2_remember_4 rfl ?_
  refine z_gI C (ci := 2) (k := 1) rfl (by decide) rfl (by decide) wl_2 wq_4_18 rfl dX2_remember_5 (by assumption) ?_
  refine z_aaldk C (q) 11 (by decide) dX2_remember_8 (by assumption) (by first | rfl | omega) (by omega) (by omega) ?_
  have kq := (hs q hq7).1.1
  refine z_top (y := .ref (b + 2 + 10 * q)) (by rw [(hs q hq7).2]; rfl) ?_
  refine z_aload_n C dX2_remember_9 rfl ?_
  refine z_callVd C (ci := 4) rfl (by decide) (by first | assumption | exact hM.1) (mX4_copyFrom l G (hs q hq7).1 hT (by omega)) (cwV 1 C.2.2.2.2.1 gv2_22 rfl rfl rfl hd_X4_copyFrom ⟨Nat.le_of_ble_eq_true rfl, Nat.le_of_ble_eq_true rfl⟩) rfl rfl (Nat.le_of_ble_eq_true rfl) dX2_remember_10 ⟨Nat.zero_le _, Nat.zero_le _⟩ ?_
  exact z_vret2 C hQ rfl dX2_remember_13 ⟨rfl, rfl, rfl, rfl, rfl, rfl⟩

set_option maxHeartbeats 4000000 in
set_option maxRecDepth 100000 in
theorem mX2_settle (l : Launch) (G : GG) {z : Nat} {K N : Nat → Nat} {I : MI} {R : MR} {b : Nat} (hM : ShH G z K N R b) {v : Int} (hv : -2147483648 ≤ v ∧ v < 2147483648) (hn : 0 ≤ I b 1 ∧ I b 1 ≤ 6) (hk : 0 ≤ I b 2 ∧ I b 2 ≤ 6) : Cod l G yX2_settle (Cond.code yX2_settle cX2_settle 2 (some .int) :: wsL_law) ⟨1, 0, 0, 21⟩ [.ref b, .int (zI v)] z K N I R (some (.int (zI v))) (if 0 ≤ v then u2 (u2 I b 1 (if I b 1 < 6 then I b 1 + 1 else 0)) b 2 (if I b 2 < 6 then I b 2 + 1 else 6) else I) R := by
  refine Con.of (own := RX2) (cc := cX2_settle) (maxL := 2) (ret := (some .int)) (by decide +kernel) rfl rfl (Nat.le_of_ble_eq_true rfl) (by decide) rfl ?_
  intro p e9 s mt args below meth c Q hin hQ C
  obtain ⟨ho, r0, k1, n1, hs⟩ := id hM
  refine z_iload_n C dX2_settle_0 rfl ?_
  refine z_if_lt C (tgt := 42) dX2_settle_1 (by decide) (by first | omega | exact b2i_r) (fun h1 => ?_) (fun h1 => ?_)
  · refine z_iload_n C dX2_settle_42 rfl ?_
    exact z_iret2 C hQ rfl dX2_settle_43 ⟨rfl, rfl, rfl, rfl, by first | (rw [if_neg (show ¬ 0 ≤ v by omega)]; done) | rw [if_pos (show 0 ≤ v by omega)], rfl⟩
  · refine z_aload_n C dX2_settle_4 rfl ?_
    refine z_aload_n C dX2_settle_5 rfl ?_
    refine z_gI C (ci := 2) (k := 1) rfl (by decide) rfl (by decide) wl_2 wq_4_18 rfl dX2_settle_6 (by assumption) ?_
    refine z_bipush C dX2_settle_9 (by decide) ?_
    refine z_icmp_ge C (tgt := 23) dX2_settle_11 (by decide) (by first | omega | exact b2i_r) (by first | omega | exact b2i_r) (fun h11 => ?_) (fun h11 => ?_)
    · refine z_iconst C dX2_settle_23 ?_
      refine z_pI C (ci := 2) (k := 1) rfl (by decide) rfl (by decide) tyX2_ok nmX2 wl_2 wq_4_18 rfl (Or.inl rfl) dX2_settle_24 (by assumption) ?_
      first
      | rw [show (I b 1 + 1) = (if I b 1 < 6 then I b 1 + 1 else 0) from (if_pos (by omega)).symm]
      | rw [show u2 I b 1 0 = u2 I b 1 (if I b 1 < 6 then I b 1 + 1 else 0) from by rw [if_neg (by omega)]]
      refine z_aload_n C dX2_settle_27 rfl ?_
      refine z_aload_n C dX2_settle_28 rfl ?_
      refine z_gI C (ci := 2) (k := 2) rfl (by decide) rfl (by decide) wl_2 wq_7_12 rfl dX2_settle_29 (by assumption) ?_
      rw [u2_k (by omega)]
      refine z_iconst C dX2_settle_32 ?_
      refine z_iadd C dX2_settle_33 ?_
      refine z_bipush C dX2_settle_34 (by decide) ?_
      refine z_min C wq_7_13 wq_7_14 wq_7_6 wq_7_15 (Nat.le_of_ble_eq_true rfl) (Nat.le_of_ble_eq_true rfl) (Nat.zero_le _) (Nat.zero_le _) dX2_settle_36 (by omega) (by omega) ?_
      rw [show (if 6 < I b 2 + 1 then 6 else I b 2 + 1) = (if I b 2 < 6 then I b 2 + 1 else 6) from by split <;> split <;> omega]
      refine z_pI C (ci := 2) (k := 2) rfl (by decide) rfl (by decide) tyX2_ok nmX2 wl_2 wq_7_12 rfl (Or.inl rfl) dX2_settle_39 (by assumption) ?_
      refine z_iload_n C dX2_settle_42 rfl ?_
      exact z_iret2 C hQ rfl dX2_settle_43 ⟨rfl, rfl, rfl, rfl, by first | (rw [if_neg (show ¬ 0 ≤ v by omega)]; done) | rw [if_pos (show 0 ≤ v by omega)], rfl⟩
    · refine z_aload_n C dX2_settle_14 rfl ?_
      refine z_gI C (ci := 2) (k := 1) rfl (by decide) rfl (by decide) wl_2 wq_4_18 rfl dX2_settle_15 (by assumption) ?_
      refine z_iconst C dX2_settle_18 ?_
      refine z_iadd C dX2_settle_19 ?_
      refine z_goto C (tgt := 24) dX2_settle_20 (by decide) ?_
      refine z_pI C (ci := 2) (k := 1) rfl (by decide) rfl (by decide) tyX2_ok nmX2 wl_2 wq_4_18 rfl (Or.inl rfl) dX2_settle_24 (by assumption) ?_
      first
      | rw [show (I b 1 + 1) = (if I b 1 < 6 then I b 1 + 1 else 0) from (if_pos (by omega)).symm]
      | rw [show u2 I b 1 0 = u2 I b 1 (if I b 1 < 6 then I b 1 + 1 else 0) from by rw [if_neg (by omega)]]
      refine z_aload_n C dX2_settle_27 rfl ?_
      refine z_aload_n C dX2_settle_28 rfl ?_
      refine z_gI C (ci := 2) (k := 2) rfl (by decide) rfl (by decide) wl_2 wq_7_12 rfl dX2_settle_29 (by assumption) ?_
      rw [u2_k (by omega)]
      refine z_iconst C dX2_settle_32 ?_
      refine z_iadd C dX2_settle_33 ?_
      refine z_bipush C dX2_settle_34 (by decide) ?_
      refine z_min C wq_7_13 wq_7_14 wq_7_6 wq_7_15 (Nat.le_of_ble_eq_true rfl) (Nat.le_of_ble_eq_true rfl) (Nat.zero_le _) (Nat.zero_le _) dX2_settle_36 (by omega) (by omega) ?_
      rw [show (if 6 < I b 2 + 1 then 6 else I b 2 + 1) = (if I b 2 < 6 then I b 2 + 1 else 6) from by split <;> split <;> omega]
      refine z_pI C (ci := 2) (k := 2) rfl (by decide) rfl (by decide) tyX2_ok nmX2 wl_2 wq_7_12 rfl (Or.inl rfl) dX2_settle_39 (by assumption) ?_
      refine z_iload_n C dX2_settle_42 rfl ?_
      exact z_iret2 C hQ rfl dX2_settle_43 ⟨rfl, rfl, rfl, rfl, by first | (rw [if_neg (show ¬ 0 ≤ v by omega)]; done) | rw [if_pos (show 0 ≤ v by omega)], rfl⟩

set_option maxHeartbeats 4000000 in
set_option maxRecDepth 100000 in
theorem mX2_stepBack (l : Launch) (G : GG) {z : Nat} {K N : Nat → Nat} {I : MI} {R : MR} {b : Nat} (hM : ShH G z K N R b) {t : Nat} (hT : ShT G z K N R t) (hd : t + 10 ≤ b ∨ b + 72 ≤ t) (hn : 0 ≤ I b 1 ∧ I b 1 ≤ 6) (hk : 0 ≤ I b 2 ∧ I b 2 ≤ 6) : Cod l G yX2_stepBack (Cond.code yX2_stepBack cX2_stepBack 2 (some .int) :: wsL_law) ⟨2, 0, 0, 48⟩ [.ref b, .ref t] z K N I R (some (.int (zI (if I b 2 < 1 then -5 else I b 2 - 1)))) (if I b 2 < 1 then I else copI (u2 (u2 I b 1 (if 0 < I b 1 then I b 1 - 1 else 6)) b 2 (I b 2 - 1)) t (b + 2 + 10 * (if 0 < I b 1 then I b 1 - 1 else 6).toNat)) (if I b 2 < 1 then R else cpR R t (b + 2 + 10 * (if 0 < I b 1 then I b 1 - 1 else 6).toNat) 6) := by
  refine Con.of (own := RX2) (cc := cX2_stepBack) (maxL := 2) (ret := (some .int)) (by decide +kernel) rfl rfl (Nat.le_of_ble_eq_true rfl) (by decide) rfl ?_
  intro p e9 s mt args below meth c Q hin hQ C
  obtain ⟨ho, r0, k1, n1, hs⟩ := id hM
  refine z_aload_n C dX2_stepBack_0 rfl ?_
  refine z_gI C (ci := 2) (k := 2) rfl (by decide) rfl (by decide) wl_2 wq_7_12 rfl dX2_stepBack_1 (by assumption) ?_
  refine z_iconst C dX2_stepBack_4 ?_
  refine z_icmp_ge C (tgt := 11) dX2_stepBack_5 (by decide) (by first | omega | exact b2i_r) (by first | omega | exact b2i_r) (fun h5 => ?_) (fun h5 => ?_)
  · refine z_aload_n C dX2_stepBack_11 rfl ?_
    refine z_aload_n C dX2_stepBack_12 rfl ?_
    refine z_gI C (ci := 2) (k := 1) rfl (by decide) rfl (by decide) wl_2 wq_4_18 rfl dX2_stepBack_13 (by assumption) ?_
    refine z_if_le C (tgt := 28) dX2_stepBack_16 (by decide) (by first | omega | exact b2i_r) (fun h16 => ?_) (fun h16 => ?_)
    · refine z_bipush C dX2_stepBack_28 (by decide) ?_
      refine z_pI C (ci := 2) (k := 1) rfl (by decide) rfl (by decide) tyX2_ok nmX2 wl_2 wq_4_18 rfl (Or.inl rfl) dX2_stepBack_30 (by assumption) ?_
      obtain ⟨q, hq, hq7⟩ : ∃ q : Nat, (if 0 < I b 1 then I b 1 - 1 else 6) = (q : Int) ∧ q < 7 := ⟨(if 0 < I b 1 then I b 1 - 1 else 6).toNat, by split <;> omega, by split <;> omega⟩
      have hqn : (if 0 < I b 1 then I b 1 - 1 else 6).toNat = q := by omega
      first
      | rw [show u2 I b 1 (I b 1 - 1) = u2 I b 1 (q : Int) from by rw [← hq, if_pos (by omega)]]
      | rw [show u2 I b 1 6 = u2 I b 1 (q : Int) from by rw [← hq, if_neg (by omega)]]
      refine z_aload_n C dX2_stepBack_33 rfl ?_
      refine z_dup C dX2_stepBack_34 rfl ?_
      refine z_gI C (ci := 2) (k := 2) rfl (by decide) rfl (by decide) wl_2 wq_7_12 rfl dX2_stepBack_35 (by assumption) ?_
      rw [u2_k (by omega)]
      refine z_iconst C dX2_stepBack_38 ?_
      refine z_isub C dX2_stepBack_39 ?_
      refine z_pI C (ci := 2) (k := 2) rfl (by decide) rfl (by decide) tyX2_ok nmX2 wl_2 wq_7_12 rfl (Or.inl rfl) dX2_stepBack_40 (by assumption) ?_
      refine z_aload_n C dX2_stepBack_43 rfl ?_
      refine z_aload_n C dX2_stepBack_44 rfl ?_
      refine z_gR C (ci := 2) (k := 0) rfl (by decide) rfl (by decide) wl_2 wq_3_7 (by decide) dX2_stepBack_45 (by assumption) (by assumption) ?_
      refine z_aload_n C dX2_stepBack_48 rfl ?_
      refine z_gI C (ci := 2) (k := 1) rfl (by decide) rfl (by decide) wl_2 wq_4_18 rfl dX2_stepBack_49 (by assumption) ?_
      rw [u2_k (by omega), u2_s]
      refine z_aaldk C (q) 11 (by decide) dX2_stepBack_52 (by assumption) (by first | rfl | omega) (by omega) (by omega) ?_
      have kq := (hs q hq7).1.1
      have kT := hT.1
      refine z_top (y := .ref (b + 2 + 10 * q)) (by rw [(hs q hq7).2]; rfl) ?_
      refine z_callVd C (ci := 4) rfl (by decide) (by first | assumption | exact hM.1) (mX4_copyFrom l G hT (hs q hq7).1 (by omega)) (cwV 1 C.2.2.2.2.1 gv2_22 rfl rfl rfl hd_X4_copyFrom ⟨Nat.le_of_ble_eq_true rfl, Nat.le_of_ble_eq_true rfl⟩) rfl rfl (Nat.le_of_ble_eq_true rfl) dX2_stepBack_53 ⟨Nat.zero_le _, Nat.zero_le _⟩ ?_
      refine z_aload_n C dX2_stepBack_56 rfl ?_
      refine z_gI C (ci := 2) (k := 2) rfl (by decide) rfl (by decide) wl_2 wq_7_12 rfl dX2_stepBack_57 (by assumption) ?_
      rw [show copI (u2 (u2 I b 1 (q : Int)) b 2 (I b 2 - 1)) t (b + 2 + 10 * q) b 2 = I b 2 - 1 from by unfold copI; rw [u2_row (by omega), u2_row (by omega), u2_row (by omega), cpI_n _ _ _ _ _ (by omega) (by omega) (by omega), u2_s]]
      exact z_iret2 C hQ rfl dX2_stepBack_60 ⟨zr (by first | (rw [if_pos (by omega)]; done) | rw [if_neg (by omega)]), rfl, rfl, rfl, by first | (rw [if_pos (by omega)]; done) | (rw [if_neg (by omega), hq]; rfl), by first | (rw [if_pos (by omega)]; done) | (rw [if_neg (by omega), hq]; rfl)⟩
    · refine z_aload_n C dX2_stepBack_19 rfl ?_
      refine z_gI C (ci := 2) (k := 1) rfl (by decide) rfl (by decide) wl_2 wq_4_18 rfl dX2_stepBack_20 (by assumption) ?_
      refine z_iconst C dX2_stepBack_23 ?_
      refine z_isub C dX2_stepBack_24 ?_
      refine z_goto C (tgt := 30) dX2_stepBack_25 (by decide) ?_
      refine z_pI C (ci := 2) (k := 1) rfl (by decide) rfl (by decide) tyX2_ok nmX2 wl_2 wq_4_18 rfl (Or.inl rfl) dX2_stepBack_30 (by assumption) ?_
      obtain ⟨q, hq, hq7⟩ : ∃ q : Nat, (if 0 < I b 1 then I b 1 - 1 else 6) = (q : Int) ∧ q < 7 := ⟨(if 0 < I b 1 then I b 1 - 1 else 6).toNat, by split <;> omega, by split <;> omega⟩
      have hqn : (if 0 < I b 1 then I b 1 - 1 else 6).toNat = q := by omega
      first
      | rw [show u2 I b 1 (I b 1 - 1) = u2 I b 1 (q : Int) from by rw [← hq, if_pos (by omega)]]
      | rw [show u2 I b 1 6 = u2 I b 1 (q : Int) from by rw [← hq, if_neg (by omega)]]
      refine z_aload_n C dX2_stepBack_33 rfl ?_
      refine z_dup C dX2_stepBack_34 rfl ?_
      refine z_gI C (ci := 2) (k := 2) rfl (by decide) rfl (by decide) wl_2 wq_7_12 rfl dX2_stepBack_35 (by assumption) ?_
      rw [u2_k (by omega)]
      refine z_iconst C dX2_stepBack_38 ?_
      refine z_isub C dX2_stepBack_39 ?_
      refine z_pI C (ci := 2) (k := 2) rfl (by decide) rfl (by decide) tyX2_ok nmX2 wl_2 wq_7_12 rfl (Or.inl rfl) dX2_stepBack_40 (by assumption) ?_
      refine z_aload_n C dX2_stepBack_43 rfl ?_
      refine z_aload_n C dX2_stepBack_44 rfl ?_
      refine z_gR C (ci := 2) (k := 0) rfl (by decide) rfl (by decide) wl_2 wq_3_7 (by decide) dX2_stepBack_45 (by assumption) (by assumption) ?_
      refine z_aload_n C dX2_stepBack_48 rfl ?_
      refine z_gI C (ci := 2) (k := 1) rfl (by decide) rfl (by decide) wl_2 wq_4_18 rfl dX2_stepBack_49 (by assumption) ?_
      rw [u2_k (by omega), u2_s]
      refine z_aaldk C (q) 11 (by decide) dX2_stepBack_52 (by assumption) (by first | rfl | omega) (by omega) (by omega) ?_
      have kq := (hs q hq7).1.1
      have kT := hT.1
      refine z_top (y := .ref (b + 2 + 10 * q)) (by rw [(hs q hq7).2]; rfl) ?_
      refine z_callVd C (ci := 4) rfl (by decide) (by first | assumption | exact hM.1) (mX4_copyFrom l G hT (hs q hq7).1 (by omega)) (cwV 1 C.2.2.2.2.1 gv2_22 rfl rfl rfl hd_X4_copyFrom ⟨Nat.le_of_ble_eq_true rfl, Nat.le_of_ble_eq_true rfl⟩) rfl rfl (Nat.le_of_ble_eq_true rfl) dX2_stepBack_53 ⟨Nat.zero_le _, Nat.zero_le _⟩ ?_
      refine z_aload_n C dX2_stepBack_56 rfl ?_
      refine z_gI C (ci := 2) (k := 2) rfl (by decide) rfl (by decide) wl_2 wq_7_12 rfl dX2_stepBack_57 (by assumption) ?_
      rw [show copI (u2 (u2 I b 1 (q : Int)) b 2 (I b 2 - 1)) t (b + 2 + 10 * q) b 2 = I b 2 - 1 from by unfold copI; rw [u2_row (by omega), u2_row (by omega), u2_row (by omega), cpI_n _ _ _ _ _ (by omega) (by omega) (by omega), u2_s]]
      exact z_iret2 C hQ rfl dX2_stepBack_60 ⟨zr (by first | (rw [if_pos (by omega)]; done) | rw [if_neg (by omega)]), rfl, rfl, rfl, by first | (rw [if_pos (by omega)]; done) | (rw [if_neg (by omega), hq]; rfl), by first | (rw [if_pos (by omega)]; done) | (rw [if_neg (by omega), hq]; rfl)⟩
  · refine z_bipush C dX2_stepBack_8 (by decide) ?_
    exact z_iret2 C hQ rfl dX2_stepBack_10 ⟨zr (by first | (rw [if_pos (by omega)]; done) | rw [if_neg (by omega)]), rfl, rfl, rfl, by first | (rw [if_pos (by omega)]; done) | (rw [if_neg (by omega), hq]; rfl), by first | (rw [if_pos (by omega)]; done) | (rw [if_neg (by omega), hq]; rfl)⟩

