/-! the pad of the class: g its own fields, nu its numbers -/
def PM (I : MI) (b : Nat) (nu g : Nat → Int) : MI := va_up (va_up I (b + 1) nu) b g
theorem PM_b (I : MI) (b : Nat) (nu g : Nat → Int) : PM I b nu g b = g := va_up_s _ _ _
theorem PM_1 (I : MI) (b : Nat) (nu g : Nat → Int) : PM I b nu g (b + 1) = nu := by
  unfold PM
  rw [va_up_n (by omega), va_up_s]
theorem PM_n (I : MI) (b a : Nat) (nu g : Nat → Int) (h0 : a ≠ b) (h1 : a ≠ b + 1) : PM I b nu g a = I a := by
  unfold PM
  rw [va_up_n h0, va_up_n h1]
theorem PM_g (I : MI) (b : Nat) (nu g : Nat → Int) (k : Nat) (v : Int) : u2 (PM I b nu g) b k v = PM I b nu (st1 g k v) := by
  unfold PM
  rw [u2_vst]
theorem PM_u (I : MI) (b : Nat) (nu g : Nat → Int) (k : Nat) (v : Int) : u2 (PM I b nu g) (b + 1) k v = PM I b (st1 nu k v) g := by
  funext a
  by_cases h0 : a = b
  · subst h0
    rw [PM_b]
    funext j
    rw [u2_row (by omega), PM_b]
  · by_cases h1 : a = b + 1
    · subst h1
      rw [PM_1]
      rw [u2_st, va_up_s, PM_1]
    · funext j
      rw [u2_row h1, PM_n _ _ _ _ _ h0 h1, PM_n _ _ _ _ _ h0 h1]
/-- a pad of the class read as the model's row -/
def md (g : Nat → Int) : Nat → Int := fun j => if j = 6 then g 2 else if j = 11 then g 4 else 0
theorem md_6 (g : Nat → Int) : md g 6 = g 2 := rfl
theorem md_11 (g : Nat → Int) : md g 11 = g 4 := rfl
def ShP (G : GG) (z : Nat) (K N : Nat → Nat) (R : MR) (b : Nat) : Prop :=
  zK G z K b 3 ∧ (R b 0 = some (b + 1) ∧ R b 3 = some (b + 2)) ∧ (zK G z K (b + 1) 9 ∧ zK G z K (b + 2) 8) ∧ N (b + 1) = 3 ∧ N (b + 2) = 80
def sgV (P g : Nat → Int) (i : Int) : Int := if 0 ≤ i ∧ i < g 2 then P i.toNat else 0
theorem sgV_ch {P g : Nat → Int} {i : Int} (hi : 0 ≤ i) {w : Int} (hw : ¬ w = 0 ∧ ¬ w = -1) : sgV P g i = w ↔ chF P (md g) i = w := by
  unfold sgV chF
  rw [md_6]
  by_cases h : i < g 2
  · rw [if_pos ⟨hi, h⟩, if_pos h]
  · rw [if_neg (fun z => h z.2), if_neg h]
    omega
theorem sgV_dg {P g : Nat → Int} (hi : 0 ≤ g 4) : (48 ≤ sgV P g (g 4) ∧ sgV P g (g 4) ≤ 57) ↔ isDg P (md g) := by
  show _ ↔ (48 ≤ chF P (md g) (g 4) ∧ chF P (md g) (g 4) ≤ 57)
  unfold sgV chF
  rw [md_6]
  by_cases h : g 4 < g 2
  · rw [if_pos ⟨hi, h⟩, if_pos h]
  · rw [if_neg (fun z => h z.2), if_neg h]
    omega
theorem sgV_e {P g : Nat → Int} (hi : 0 ≤ g 4) (h : isDg P (md g)) : sgV P g (g 4) = chF P (md g) (md g 11) := by
  rw [md_11]
  exact (sgV_ch hi (w := chF P (md g) (g 4)) (by have h2 : 48 ≤ chF P (md g) (g 4) ∧ _ := h; omega)).mpr rfl
theorem sgV_rng {P g : Nat → Int} (hT : TOk P (md g)) (i : Int) : 0 ≤ sgV P g i ∧ sgV P g i ≤ 126 := by
  unfold sgV
  have h6 := hT.1
  rw [md_6] at h6
  split
  · have := hT.2.1 i.toNat (by omega)
    omega
  · omega
set_option maxHeartbeats 4000000 in
set_option maxRecDepth 100000 in
theorem mX3_signAt (l : Launch) (G : GG) {z : Nat} {K N : Nat → Nat} {I : MI} {R : MR} {b : Nat} (hM : ShP G z K N R b) {nu g : Nat → Int} (hT : TOk (I (b + 2)) (md g)) {i : Int} (hi : -2147483648 ≤ i ∧ i < 2147483648) : Cod l G yX3_signAt (Cond.code yX3_signAt cX3_signAt 2 (some .int) :: wsL_law) ⟨0, 0, 0, 0⟩ [.ref b, .int (zI i)] z K N (PM I b nu g) R (some (.int (zI (sgV (I (b + 2)) g i)))) (PM I b nu g) R := by
  refine Con.of (own := RX3) (cc := cX3_signAt) (maxL := 2) (ret := (some .int)) (by decide +kernel) rfl rfl (Nat.le_of_ble_eq_true rfl) (by decide) rfl ?_
  intro p e9 s mt args below meth c Q hin hQ C
  obtain ⟨ho, ⟨r0, r3⟩, ⟨k1, k2⟩, n1, n2⟩ := id hM
  have hT9 := id hT
  obtain ⟨t6, tP, t11⟩ := hT9
  rw [md_6] at t6 t11
  rw [md_11] at t11
  refine z_iload_n C dX3_signAt_0 rfl ?_
  refine z_if_lt C (tgt := 12) dX3_signAt_1 (by decide) (by first | omega | exact b2i_r) (fun h1 => ?_) (fun h1 => ?_)
  · refine z_iconst C dX3_signAt_12 ?_
    refine z_goto C (tgt := 22) dX3_signAt_13 (by decide) ?_
    exact z_iret2 C hQ rfl dX3_signAt_22 ⟨zr (by unfold sgV; first | exact (if_neg (by omega)).symm | exact (if_pos (by omega)).symm), rfl, rfl, rfl, rfl, rfl⟩
  · refine z_iload_n C dX3_signAt_4 rfl ?_
    refine z_aload_n C dX3_signAt_5 rfl ?_
    refine z_gI C (ci := 3) (k := 2) rfl (by decide) rfl (by decide) wl_3 wq_25_16 rfl dX3_signAt_6 (by assumption) ?_
    rw [PM_b]
    refine z_icmp_lt C (tgt := 16) dX3_signAt_9 (by decide) (by first | omega | exact b2i_r) (by first | omega | exact b2i_r) (fun h9 => ?_) (fun h9 => ?_)
    · obtain ⟨n9, rfl⟩ := Int.eq_ofNat_of_zero_le (show 0 ≤ i by omega)
      have hp9 := tP n9 (by omega)
      refine z_aload_n C dX3_signAt_16 rfl ?_
      refine z_gR C (ci := 3) (k := 3) rfl (by decide) rfl (by decide) wl_3 wq_3_22 (by decide) dX3_signAt_17 (by assumption) (by assumption) ?_
      refine z_iload_n C dX3_signAt_20 rfl ?_
      refine z_caldk C (n9) dX3_signAt_21 (by assumption) (by first | rfl | omega) (by omega) (by omega) ?_
      rw [PM_n _ _ _ _ _ (by omega) (by omega)]
      exact z_iret2 C hQ rfl dX3_signAt_22 ⟨zr (by unfold sgV; first | exact (if_neg (by omega)).symm | exact (if_pos (by omega)).symm), rfl, rfl, rfl, rfl, rfl⟩
    · refine z_iconst C dX3_signAt_12 ?_
      refine z_goto C (tgt := 22) dX3_signAt_13 (by decide) ?_
      exact z_iret2 C hQ rfl dX3_signAt_22 ⟨zr (by unfold sgV; first | exact (if_neg (by omega)).symm | exact (if_pos (by omega)).symm), rfl, rfl, rfl, rfl, rfl⟩

set_option maxHeartbeats 4000000 in
set_option maxRecDepth 100000 in
theorem mX3_isDigit (l : Launch) (G : GG) {z : Nat} {K N : Nat → Nat} {I : MI} {R : MR} {v : Int} (hv : -2147483648 ≤ v ∧ v < 2147483648) : Cod l G yX3_isDigit (Cond.code yX3_isDigit cX3_isDigit 1 (some .boolean) :: wsL_law) ⟨0, 0, 0, 0⟩ [.int (zI v)] z K N I R (some (.int (zI (b2i (48 ≤ v ∧ v ≤ 57))))) I R := by
  refine Con.of (own := RX3) (cc := cX3_isDigit) (maxL := 1) (ret := (some .boolean)) (by decide +kernel) rfl rfl (Nat.le_of_ble_eq_true rfl) (by decide) rfl ?_
  intro p e9 s mt args below meth c Q hin hQ C
  refine z_iload_n C dX3_isDigit_0 rfl ?_
  refine z_bipush C dX3_isDigit_1 (by decide) ?_
  refine z_icmp_lt C (tgt := 16) dX3_isDigit_3 (by decide) (by first | omega | exact b2i_r) (by first | omega | exact b2i_r) (fun h3 => ?_) (fun h3 => ?_)
  · refine z_iconst C dX3_isDigit_16 ?_
    exact z_zret2 C hQ rfl (by first | exact Or.inl rfl | exact Or.inr rfl | exact b2i_c | omega) dX3_isDigit_17 ⟨zr (by first | exact (b2i_t (by omega)).symm | exact (b2i_f (by omega)).symm), rfl, rfl, rfl, rfl, rfl⟩
  · refine z_iload_n C dX3_isDigit_6 rfl ?_
    refine z_bipush C dX3_isDigit_7 (by decide) ?_
    refine z_icmp_gt C (tgt := 16) dX3_isDigit_9 (by decide) (by first | omega | exact b2i_r) (by first | omega | exact b2i_r) (fun h9 => ?_) (fun h9 => ?_)
    · refine z_iconst C dX3_isDigit_16 ?_
      exact z_zret2 C hQ rfl (by first | exact Or.inl rfl | exact Or.inr rfl | exact b2i_c | omega) dX3_isDigit_17 ⟨zr (by first | exact (b2i_t (by omega)).symm | exact (b2i_f (by omega)).symm), rfl, rfl, rfl, rfl, rfl⟩
    · refine z_iconst C dX3_isDigit_12 ?_
      refine z_goto C (tgt := 17) dX3_isDigit_13 (by decide) ?_
      exact z_zret2 C hQ rfl (by first | exact Or.inl rfl | exact Or.inr rfl | exact b2i_c | omega) dX3_isDigit_17 ⟨zr (by first | exact (b2i_t (by omega)).symm | exact (b2i_f (by omega)).symm), rfl, rfl, rfl, rfl, rfl⟩

set_option maxHeartbeats 4000000 in
set_option maxRecDepth 100000 in
theorem mX3_pass (l : Launch) (G : GG) {z : Nat} {K N : Nat → Nat} {I : MI} {R : MR} {b : Nat} (hM : ShP G z K N R b) {nu g : Nat → Int} (hT : TOk (I (b + 2)) (md g)) {w : Int} (hw : 0 < w ∧ w < 128) : Cod l G yX3_pass (Cond.code yX3_pass cX3_pass 2 (some .boolean) :: wsL_law) ⟨1, 0, 0, 21⟩ [.ref b, .int (zI w)] z K N (PM I b nu g) R (some (.int (zI (nxB (I (b + 2)) (md g) w)))) (PM I b nu (st1 g 4 (g 4 + nxB (I (b + 2)) (md g) w))) R := by
  refine Con.of (own := RX3) (cc := cX3_pass) (maxL := 2) (ret := (some .boolean)) (by decide +kernel) rfl rfl (Nat.le_of_ble_eq_true rfl) (by decide) rfl ?_
  intro p e9 s mt args below meth c Q hin hQ C
  obtain ⟨ho, ⟨r0, r3⟩, ⟨k1, k2⟩, n1, n2⟩ := id hM
  have hT9 := id hT
  obtain ⟨t6, tP, t11⟩ := hT9
  rw [md_6] at t6 t11
  rw [md_11] at t11
  have hsr := sgV_rng hT (g 4)
  have hsc := sgV_ch (P := (I (b + 2))) (g := g) (i := g 4) t11.1 (w := w) (by omega)
  refine z_aload_n C dX3_pass_0 rfl ?_
  refine z_aload_n C dX3_pass_1 rfl ?_
  refine z_gI C (ci := 3) (k := 4) rfl (by decide) rfl (by decide) wl_3 wq_27_0 rfl dX3_pass_2 (by assumption) ?_
  rw [PM_b]
  refine z_callVd C (ci := 3) rfl (by decide) (by first | assumption | exact hM.1) (mX3_signAt l G hM hT (by omega)) (cwV 1 C.2.2.2.2.1 gv3_47 rfl rfl rfl hd_X3_signAt ⟨Nat.le_of_ble_eq_true rfl, Nat.le_of_ble_eq_true rfl⟩) rfl rfl (Nat.le_of_ble_eq_true rfl) dX3_pass_5 ⟨Nat.zero_le _, Nat.zero_le _⟩ ?_
  refine z_iload_n C dX3_pass_8 rfl ?_
  refine z_icmp_eq C (tgt := 14) dX3_pass_9 (by decide) (by first | omega | exact b2i_r) (by first | omega | exact b2i_r) (fun h9 => ?_) (fun h9 => ?_)
  · have hb9 : nxB (I (b + 2)) (md g) w = 1 := b2i_t (hsc.mp h9)
    refine z_aload_n C dX3_pass_14 rfl ?_
    refine z_dup C dX3_pass_15 rfl ?_
    refine z_gI C (ci := 3) (k := 4) rfl (by decide) rfl (by decide) wl_3 wq_27_0 rfl dX3_pass_16 (by assumption) ?_
    rw [PM_b]
    refine z_iconst C dX3_pass_19 ?_
    refine z_iadd C dX3_pass_20 ?_
    refine z_pI C (ci := 3) (k := 4) rfl (by decide) rfl (by decide) tyX3_ok nmX3 wl_3 wq_27_0 rfl (Or.inl rfl) dX3_pass_21 (by assumption) ?_
    refine z_iconst C dX3_pass_24 ?_
    exact z_zret2 C hQ rfl (by first | exact Or.inl rfl | exact Or.inr rfl | exact b2i_c | omega) dX3_pass_25 ⟨zr (by rw [hb9]), rfl, rfl, rfl, by first | (rw [hb9, PM_g]; done) | (rw [hb9, Int.add_zero]; congr 1; funext j; unfold st1; split <;> first | rfl | (subst_vars; rfl)), rfl⟩
  · have hb9 : nxB (I (b + 2)) (md g) w = 0 := b2i_f (fun z => h9 (hsc.mpr z))
    refine z_iconst C dX3_pass_12 ?_
    exact z_zret2 C hQ rfl (by first | exact Or.inl rfl | exact Or.inr rfl | exact b2i_c | omega) dX3_pass_13 ⟨zr (by rw [hb9]), rfl, rfl, rfl, by first | (rw [hb9, PM_g]; done) | (rw [hb9, Int.add_zero]; congr 1; funext j; unfold st1; split <;> first | rfl | (subst_vars; rfl)), rfl⟩

set_option maxHeartbeats 4000000 in
set_option maxRecDepth 100000 in
theorem mX3_readDigit (l : Launch) (G : GG) {z : Nat} {K N : Nat → Nat} {I : MI} {R : MR} {b : Nat} (hM : ShP G z K N R b) {nu g : Nat → Int} (hT : TOk (I (b + 2)) (md g))  : Cod l G yX3_readDigit (Cond.code yX3_readDigit cX3_readDigit 2 (some .boolean) :: wsL_law) ⟨1, 0, 0, 21⟩ [.ref b] z K N (PM I b nu g) R (some (.int (zI (b2i (isDg (I (b + 2)) (md g)))))) (PM I b (if isDg (I (b + 2)) (md g) then st1 nu 0 (tdV (I (b + 2)) (md g)) else nu) (if isDg (I (b + 2)) (md g) then st1 g 4 (g 4 + 1) else g)) R := by
  refine Con.of (own := RX3) (cc := cX3_readDigit) (maxL := 2) (ret := (some .boolean)) (by decide +kernel) rfl rfl (Nat.le_of_ble_eq_true rfl) (by decide) rfl ?_
  intro p e9 s mt args below meth c Q hin hQ C
  obtain ⟨ho, ⟨r0, r3⟩, ⟨k1, k2⟩, n1, n2⟩ := id hM
  have hT9 := id hT
  obtain ⟨t6, tP, t11⟩ := hT9
  rw [md_6] at t6 t11
  rw [md_11] at t11
  have hsr := sgV_rng hT (g 4)
  have hsd := sgV_dg (P := (I (b + 2))) (g := g) t11.1
  refine z_aload_n C dX3_readDigit_0 rfl ?_
  refine z_aload_n C dX3_readDigit_1 rfl ?_
  refine z_gI C (ci := 3) (k := 4) rfl (by decide) rfl (by decide) wl_3 wq_27_0 rfl dX3_readDigit_2 (by assumption) ?_
  rw [PM_b]
  refine z_callVd C (ci := 3) rfl (by decide) (by first | assumption | exact hM.1) (mX3_signAt l G hM hT (by omega)) (cwV 1 C.2.2.2.2.1 gv3_47 rfl rfl rfl hd_X3_signAt ⟨Nat.le_of_ble_eq_true rfl, Nat.le_of_ble_eq_true rfl⟩) rfl rfl (Nat.le_of_ble_eq_true rfl) dX3_readDigit_5 ⟨Nat.zero_le _, Nat.zero_le _⟩ ?_
  refine z_istore_n C dX3_readDigit_8 (by decide) rfl ?_
  refine z_iload_n C dX3_readDigit_9 rfl ?_
  refine z_callSd C (mX3_isDigit l G (by omega)) (va_cwS 1 C.2.2.2.2.1 gv3_63 rfl rfl rfl hs_X3_isDigit ⟨Nat.le_of_ble_eq_true rfl, Nat.le_of_ble_eq_true rfl⟩) rfl rfl (Nat.le_of_ble_eq_true rfl) dX3_readDigit_10 ⟨Nat.zero_le _, Nat.zero_le _⟩ ?_
  refine z_if_ne C (tgt := 18) dX3_readDigit_13 (by decide) (by first | omega | exact b2i_r) (fun h13 => ?_) (fun h13 => ?_)
  · have hd9 : isDg (I (b + 2)) (md g) := hsd.mp (b2i_1.mp h13)
    have hdv : sgV (I (b + 2)) g (g 4) - 48 = tdV (I (b + 2)) (md g) := by rw [sgV_e t11.1 hd9]; unfold tdV; rw [if_pos hd9]
    refine z_aload_n C dX3_readDigit_18 rfl ?_
    refine z_gR C (ci := 3) (k := 0) rfl (by decide) rfl (by decide) wl_3 wq_3_20 (by decide) dX3_readDigit_19 (by assumption) (by assumption) ?_
    refine z_iconst C dX3_readDigit_22 ?_
    refine z_iload_n C dX3_readDigit_23 rfl ?_
    refine z_bipush C dX3_readDigit_24 (by decide) ?_
    refine z_isub C dX3_readDigit_26 ?_
    rw [hdv]
    refine z_iastk C (0) dX3_readDigit_27 (by assumption) (by first | rfl | omega) (by omega) (by omega) ?_
    rw [PM_u]
    refine z_aload_n C dX3_readDigit_28 rfl ?_
    refine z_dup C dX3_readDigit_29 rfl ?_
    refine z_gI C (ci := 3) (k := 4) rfl (by decide) rfl (by decide) wl_3 wq_27_0 rfl dX3_readDigit_30 (by assumption) ?_
    rw [PM_b]
    refine z_iconst C dX3_readDigit_33 ?_
    refine z_iadd C dX3_readDigit_34 ?_
    refine z_pI C (ci := 3) (k := 4) rfl (by decide) rfl (by decide) tyX3_ok nmX3 wl_3 wq_27_0 rfl (Or.inl rfl) dX3_readDigit_35 (by assumption) ?_
    refine z_iconst C dX3_readDigit_38 ?_
    exact z_zret2 C hQ rfl (by first | exact Or.inl rfl | exact Or.inr rfl | exact b2i_c | omega) dX3_readDigit_39 ⟨zr (by first | exact (b2i_t hd9).symm | exact (b2i_f hd9).symm), rfl, rfl, rfl, by first | (rw [if_neg hd9, if_neg hd9]; done) | (rw [if_pos hd9, if_pos hd9, PM_g]), rfl⟩
  · have hd9 : ¬ isDg (I (b + 2)) (md g) := fun z => b2i_0.mp h13 (hsd.mpr z)
    refine z_iconst C dX3_readDigit_16 ?_
    exact z_zret2 C hQ rfl (by first | exact Or.inl rfl | exact Or.inr rfl | exact b2i_c | omega) dX3_readDigit_17 ⟨zr (by first | exact (b2i_t hd9).symm | exact (b2i_f hd9).symm), rfl, rfl, rfl, by first | (rw [if_neg hd9, if_neg hd9]; done) | (rw [if_pos hd9, if_pos hd9, PM_g]), rfl⟩

set_option maxHeartbeats 4000000 in
set_option maxRecDepth 100000 in
theorem mX3_clear (l : Launch) (G : GG) {z : Nat} {K N : Nat → Nat} {I : MI} {R : MR} {b : Nat} (hM : ShP G z K N R b) {nu g : Nat → Int} (hT : TOk (I (b + 2)) (md g))  : Cod l G yX3_clear (Cond.code yX3_clear cX3_clear 2 (some .int) :: wsL_law) ⟨0, 0, 0, 0⟩ [.ref b] z K N (PM I b nu g) R (some (.int (zI (g 2)))) (PM I b nu (st1 g 2 0)) R := by
  refine Con.of (own := RX3) (cc := cX3_clear) (maxL := 2) (ret := (some .int)) (by decide +kernel) rfl rfl (Nat.le_of_ble_eq_true rfl) (by decide) rfl ?_
  intro p e9 s mt args below meth c Q hin hQ C
  obtain ⟨ho, ⟨r0, r3⟩, ⟨k1, k2⟩, n1, n2⟩ := id hM
  have hT9 := id hT
  obtain ⟨t6, tP, t11⟩ := hT9
  rw [md_6] at t6 t11
  rw [md_11] at t11
  refine z_aload_n C dX3_clear_0 rfl ?_
  refine z_gI C (ci := 3) (k := 2) rfl (by decide) rfl (by decide) wl_3 wq_25_16 rfl dX3_clear_1 (by assumption) ?_
  rw [PM_b]
  refine z_istore_n C dX3_clear_4 (by decide) rfl ?_
  refine z_aload_n C dX3_clear_5 rfl ?_
  refine z_iconst C dX3_clear_6 ?_
  refine z_pI C (ci := 3) (k := 2) rfl (by decide) rfl (by decide) tyX3_ok nmX3 wl_3 wq_25_16 rfl (Or.inl rfl) dX3_clear_7 (by assumption) ?_
  refine z_iload_n C dX3_clear_10 rfl ?_
  exact z_iret2 C hQ rfl dX3_clear_11 ⟨rfl, rfl, rfl, rfl, PM_g _ _ _ _ _ _, rfl⟩

set_option maxHeartbeats 4000000 in
set_option maxRecDepth 100000 in
theorem mX3_rewind (l : Launch) (G : GG) {z : Nat} {K N : Nat → Nat} {I : MI} {R : MR} {b : Nat} (hM : ShP G z K N R b) {nu g : Nat → Int} (hT : TOk (I (b + 2)) (md g))  : Cod l G yX3_rewind (Cond.code yX3_rewind cX3_rewind 1 none :: wsL_law) ⟨0, 0, 0, 0⟩ [.ref b] z K N (PM I b nu g) R none (PM I b nu (st1 g 4 0)) R := by
  refine Con.of (own := RX3) (cc := cX3_rewind) (maxL := 1) (ret := none) (by decide +kernel) rfl rfl (Nat.le_of_ble_eq_true rfl) (by decide) rfl ?_
  intro p e9 s mt args below meth c Q hin hQ C
  obtain ⟨ho, ⟨r0, r3⟩, ⟨k1, k2⟩, n1, n2⟩ := id hM
  have hT9 := id hT
  obtain ⟨t6, tP, t11⟩ := hT9
  rw [md_6] at t6 t11
  rw [md_11] at t11
  refine z_aload_n C dX3_rewind_0 rfl ?_
  refine z_iconst C dX3_rewind_1 ?_
  refine z_pI C (ci := 3) (k := 4) rfl (by decide) rfl (by decide) tyX3_ok nmX3 wl_3 wq_27_0 rfl (Or.inl rfl) dX3_rewind_2 (by assumption) ?_
  exact z_vret2 C hQ rfl dX3_rewind_5 ⟨rfl, rfl, rfl, rfl, PM_g _ _ _ _ _ _, rfl⟩

