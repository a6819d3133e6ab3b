set_option maxHeartbeats 4000000 in
set_option maxRecDepth 100000 in
theorem mX7_within (l : Launch) (G : GG) {z : Nat} {K N : Nat → Nat} {I : MI} {R : MR} {v low high : Int} (hv : -2147483648 ≤ v ∧ v < 2147483648) (hlow : -2147483648 ≤ low ∧ low < 2147483648) (hhigh : -2147483648 ≤ high ∧ high < 2147483648) : Cod l G yX7_within (Cond.code yX7_within cX7_within 3 (some .boolean) :: wsL_law) ⟨0, 0, 0, 0⟩ [.int (zI v), .int (zI low), .int (zI high)] z K N I R (some (.int (zI (b2i (low ≤ v ∧ v ≤ high))))) I R := by
  refine Con.of (own := RX7) (cc := cX7_within) (maxL := 3) (ret := (some .boolean)) (by decide +kernel) rfl rfl (Nat.le_of_ble_eq_true rfl) (by decide) rfl ?_
  intro p e9 s mt args below meth c Q hin hQ C
  refine z_iload_n C dX7_within_0 rfl ?_
  refine z_iload_n C dX7_within_1 rfl ?_
  refine z_icmp_lt C (tgt := 14) dX7_within_2 (by decide) (by omega) (by omega) (fun h2 => ?_) (fun h2 => ?_)
  · refine z_iconst C dX7_within_14 ?_
    exact z_zret2 C hQ rfl (by first | exact Or.inl rfl | exact Or.inr rfl | exact b2i_c | omega) dX7_within_15 ⟨zr (by first | exact (b2i_t (by omega)).symm | exact (b2i_f (by omega)).symm), rfl, rfl, rfl, rfl, rfl⟩
  · refine z_iload_n C dX7_within_5 rfl ?_
    refine z_iload_n C dX7_within_6 rfl ?_
    refine z_icmp_gt C (tgt := 14) dX7_within_7 (by decide) (by omega) (by omega) (fun h7 => ?_) (fun h7 => ?_)
    · refine z_iconst C dX7_within_14 ?_
      exact z_zret2 C hQ rfl (by first | exact Or.inl rfl | exact Or.inr rfl | exact b2i_c | omega) dX7_within_15 ⟨zr (by first | exact (b2i_t (by omega)).symm | exact (b2i_f (by omega)).symm), rfl, rfl, rfl, rfl, rfl⟩
    · refine z_iconst C dX7_within_10 ?_
      refine z_goto C (tgt := 15) dX7_within_11 (by decide) ?_
      exact z_zret2 C hQ rfl (by first | exact Or.inl rfl | exact Or.inr rfl | exact b2i_c | omega) dX7_within_15 ⟨zr (by first | exact (b2i_t (by omega)).symm | exact (b2i_f (by omega)).symm), rfl, rfl, rfl, rfl, rfl⟩

set_option maxHeartbeats 4000000 in
set_option maxRecDepth 100000 in
theorem mX7_size (l : Launch) (G : GG) {z : Nat} {K N : Nat → Nat} {I : MI} {R : MR} {v : Int} (hv : -2147483648 < v ∧ v < 2147483648) : Cod l G yX7_size (Cond.code yX7_size cX7_size 1 (some .int) :: wsL_law) ⟨0, 0, 0, 0⟩ [.int (zI v)] z K N I R (some (.int (zI (absz v)))) I R := by
  refine Con.of (own := RX7) (cc := cX7_size) (maxL := 1) (ret := (some .int)) (by decide +kernel) rfl rfl (Nat.le_of_ble_eq_true rfl) (by decide) rfl ?_
  intro p e9 s mt args below meth c Q hin hQ C
  refine z_iload_n C dX7_size_0 rfl ?_
  refine z_if_ge C (tgt := 9) dX7_size_1 (by decide) (by omega) (fun h1 => ?_) (fun h1 => ?_)
  · refine z_iload_n C dX7_size_9 rfl ?_
    exact z_iret2 C hQ rfl dX7_size_10 ⟨zr (by unfold absz; split <;> omega), rfl, rfl, rfl, rfl, rfl⟩
  · refine z_iload_n C dX7_size_4 rfl ?_
    refine z_ineg C dX7_size_5 ?_
    refine z_goto C (tgt := 10) dX7_size_6 (by decide) ?_
    exact z_iret2 C hQ rfl dX7_size_10 ⟨zr (by unfold absz; split <;> omega), rfl, rfl, rfl, rfl, rfl⟩

set_option maxHeartbeats 4000000 in
set_option maxRecDepth 100000 in
theorem mX7_rounded (l : Launch) (G : GG) {z : Nat} {K N : Nat → Nat} {I : MI} {R : MR} {v b : Int} (hv : 0 ≤ v ∧ v < 2147483648) (hb : 0 < b ∧ b < 2147483648) : Cod l G yX7_rounded (Cond.code yX7_rounded cX7_rounded 2 (some .int) :: wsL_law) ⟨0, 0, 0, 0⟩ [.int (zI v), .int (zI b)] z K N I R (some (.int (zI (rnd v b)))) I R := by
  refine Con.of (own := RX7) (cc := cX7_rounded) (maxL := 2) (ret := (some .int)) (by decide +kernel) rfl rfl (Nat.le_of_ble_eq_true rfl) (by decide) rfl ?_
  intro p e9 s mt args below meth c Q hin hQ C
  have hm0 := Int.emod_nonneg v (show b ≠ 0 by omega)
  have hm1 := Int.emod_lt_of_pos v hb.1
  refine z_iload_n C dX7_rounded_0 rfl ?_
  refine z_iload_n C dX7_rounded_1 rfl ?_
  refine z_idiv C dX7_rounded_2 (by omega) (by omega) ?_
  refine z_iload_n C dX7_rounded_3 rfl ?_
  refine z_iload_n C dX7_rounded_4 rfl ?_
  refine z_irem C dX7_rounded_5 (by omega) (by omega) ?_
  refine z_iload_n C dX7_rounded_6 rfl ?_
  refine z_iload_n C dX7_rounded_7 rfl ?_
  refine z_iload_n C dX7_rounded_8 rfl ?_
  refine z_irem C dX7_rounded_9 (by omega) (by omega) ?_
  refine z_isub C dX7_rounded_10 ?_
  refine z_icmp_lt C (tgt := 18) dX7_rounded_11 (by decide) (by omega) (by omega) (fun h11 => ?_) (fun h11 => ?_)
  · refine z_iconst C dX7_rounded_18 ?_
    refine z_iadd C dX7_rounded_19 ?_
    exact z_iret2 C hQ rfl dX7_rounded_20 ⟨zr (by unfold rnd; first | rw [b2i_t (by omega)] | rw [b2i_f (by omega)]), rfl, rfl, rfl, rfl, rfl⟩
  · refine z_iconst C dX7_rounded_14 ?_
    refine z_goto C (tgt := 19) dX7_rounded_15 (by decide) ?_
    refine z_iadd C dX7_rounded_19 ?_
    exact z_iret2 C hQ rfl dX7_rounded_20 ⟨zr (by unfold rnd; first | rw [b2i_t (by omega)] | rw [b2i_f (by omega)]), rfl, rfl, rfl, rfl, rfl⟩

set_option maxHeartbeats 4000000 in
set_option maxRecDepth 100000 in
theorem mX7_isRing (l : Launch) (G : GG) {z : Nat} {K N : Nat → Nat} {I : MI} {R : MR} {o : Nat} (hM : ShM G z K N R o) (hO : Ok (I (o + 1))) {r : Int} (hr : -2147483648 ≤ r ∧ r < 2147483648) : Cod l G yX7_isRing (Cond.code yX7_isRing cX7_isRing 2 (some .boolean) :: wsL_law) ⟨1, 0, 0, 22⟩ [.ref o, .int (zI r)] z K N I R (some (.int (zI (b2i (0 ≤ r ∧ r ≤ I (o + 1) 3 - 1))))) I R := by
  refine Con.of (own := RX7) (cc := cX7_isRing) (maxL := 2) (ret := (some .boolean)) (by decide +kernel) rfl rfl (Nat.le_of_ble_eq_true rfl) (by decide) rfl ?_
  intro p e9 s mt args below meth c Q hin hQ C
  obtain ⟨ho, ⟨r0, r1, r3, r4, r5, r7, r8⟩, ⟨k1, k2, k3, k4, k5, k6, k7⟩, n1, n2, n3, n4, n5, n6, n7⟩ := id hM
  have h3 := hO.2.2.2.1
  refine z_iload_n C dX7_isRing_0 rfl ?_
  refine z_iconst C dX7_isRing_1 ?_
  refine z_aload_n C dX7_isRing_2 rfl ?_
  refine z_gR C (ci := 7) (k := 0) rfl (by decide) rfl (by decide) wl_7 wq_4_3 (by decide) dX7_isRing_3 (by assumption) (by assumption) ?_
  refine z_iconst C dX7_isRing_6 ?_
  refine z_ialdk C (3) dX7_isRing_7 (by assumption) (by first | rfl | omega) (by omega) (by omega) ?_
  refine z_iconst C dX7_isRing_8 ?_
  refine z_isub C dX7_isRing_9 ?_
  refine z_callSd C (mX7_within l G (by omega) (by omega) (by omega)) (va_cwS 3 C.2.2.2.2.1 gv7_39 rfl rfl rfl hs_X7_within ⟨Nat.le_of_ble_eq_true rfl, Nat.le_of_ble_eq_true rfl⟩) rfl rfl (Nat.le_of_ble_eq_true rfl) dX7_isRing_10 ⟨Nat.zero_le _, Nat.zero_le _⟩ ?_
  exact z_zret2 C hQ rfl (by first | exact Or.inl rfl | exact Or.inr rfl | exact b2i_c | omega) dX7_isRing_13 ⟨rfl, rfl, rfl, rfl, rfl, rfl⟩

set_option maxHeartbeats 4000000 in
set_option maxRecDepth 100000 in
theorem mX7_isGauge (l : Launch) (G : GG) {z : Nat} {K N : Nat → Nat} {I : MI} {R : MR} {o : Nat} (hM : ShM G z K N R o) (hO : Ok (I (o + 1))) {r : Int} (hr : -2147483648 ≤ r ∧ r < 2147483648) : Cod l G yX7_isGauge (Cond.code yX7_isGauge cX7_isGauge 2 (some .boolean) :: wsL_law) ⟨1, 0, 0, 22⟩ [.ref o, .int (zI r)] z K N I R (some (.int (zI (b2i (0 ≤ r ∧ r ≤ I (o + 1) 5 - 1))))) I R := by
  refine Con.of (own := RX7) (cc := cX7_isGauge) (maxL := 2) (ret := (some .boolean)) (by decide +kernel) rfl rfl (Nat.le_of_ble_eq_true rfl) (by decide) rfl ?_
  intro p e9 s mt args below meth c Q hin hQ C
  obtain ⟨ho, ⟨r0, r1, r3, r4, r5, r7, r8⟩, ⟨k1, k2, k3, k4, k5, k6, k7⟩, n1, n2, n3, n4, n5, n6, n7⟩ := id hM
  have h3 := hO.2.2.2.2.2.1
  refine z_iload_n C dX7_isGauge_0 rfl ?_
  refine z_iconst C dX7_isGauge_1 ?_
  refine z_aload_n C dX7_isGauge_2 rfl ?_
  refine z_gR C (ci := 7) (k := 0) rfl (by decide) rfl (by decide) wl_7 wq_4_3 (by decide) dX7_isGauge_3 (by assumption) (by assumption) ?_
  refine z_iconst C dX7_isGauge_6 ?_
  refine z_ialdk C (5) dX7_isGauge_7 (by assumption) (by first | rfl | omega) (by omega) (by omega) ?_
  refine z_iconst C dX7_isGauge_8 ?_
  refine z_isub C dX7_isGauge_9 ?_
  refine z_callSd C (mX7_within l G (by omega) (by omega) (by omega)) (va_cwS 3 C.2.2.2.2.1 gv7_39 rfl rfl rfl hs_X7_within ⟨Nat.le_of_ble_eq_true rfl, Nat.le_of_ble_eq_true rfl⟩) rfl rfl (Nat.le_of_ble_eq_true rfl) dX7_isGauge_10 ⟨Nat.zero_le _, Nat.zero_le _⟩ ?_
  exact z_zret2 C hQ rfl (by first | exact Or.inl rfl | exact Or.inr rfl | exact b2i_c | omega) dX7_isGauge_13 ⟨rfl, rfl, rfl, rfl, rfl, rfl⟩

set_option maxHeartbeats 4000000 in
set_option maxRecDepth 100000 in
theorem mX7_isStacked (l : Launch) (G : GG) {z : Nat} {K N : Nat → Nat} {I : MI} {R : MR} {o : Nat} (hM : ShM G z K N R o) (hO : Ok (I (o + 1))) {r : Int} (hr : 0 ≤ r ∧ r < 31) : Cod l G yX7_isStacked (Cond.code yX7_isStacked cX7_isStacked 2 (some .boolean) :: wsL_law) ⟨0, 0, 0, 0⟩ [.ref o, .int (zI r)] z K N I R (some (.int (zI (I (o + 1) 4 / 2 ^ r.toNat % 2)))) I R := by
  refine Con.of (own := RX7) (cc := cX7_isStacked) (maxL := 2) (ret := (some .boolean)) (by decide +kernel) rfl rfl (Nat.le_of_ble_eq_true rfl) (by decide) rfl ?_
  intro p e9 s mt args below meth c Q hin hQ C
  obtain ⟨ho, ⟨r0, r1, r3, r4, r5, r7, r8⟩, ⟨k1, k2, k3, k4, k5, k6, k7⟩, n1, n2, n3, n4, n5, n6, n7⟩ := id hM
  have h4 := Ok4 hO
  refine z_aload_n C dX7_isStacked_0 rfl ?_
  refine z_gR C (ci := 7) (k := 0) rfl (by decide) rfl (by decide) wl_7 wq_4_3 (by decide) dX7_isStacked_1 (by assumption) (by assumption) ?_
  refine z_iconst C dX7_isStacked_4 ?_
  refine z_ialdk C (4) dX7_isStacked_5 (by assumption) (by first | rfl | omega) (by omega) (by omega) ?_
  refine z_iload_n C dX7_isStacked_6 rfl ?_
  refine z_ishr C dX7_isStacked_7 (zI_shr (by omega) (by omega)) ?_
  refine z_iconst C dX7_isStacked_8 ?_
  refine z_iand C dX7_isStacked_9 (zI_and1 _) ?_
  refine z_iconst C dX7_isStacked_10 ?_
  refine z_icmp_ne C (tgt := 18) dX7_isStacked_11 (by decide) (by omega) (by omega) (fun h11 => ?_) (fun h11 => ?_)
  · refine z_iconst C dX7_isStacked_18 ?_
    exact z_zret2 C hQ rfl (by first | exact Or.inl rfl | exact Or.inr rfl | exact b2i_c | omega) dX7_isStacked_19 ⟨zr (by first | exact (he).symm | omega), rfl, rfl, rfl, rfl, rfl⟩
  · refine z_iconst C dX7_isStacked_14 ?_
    refine z_goto C (tgt := 19) dX7_isStacked_15 (by decide) ?_
    exact z_zret2 C hQ rfl (by first | exact Or.inl rfl | exact Or.inr rfl | exact b2i_c | omega) dX7_isStacked_19 ⟨zr (by first | exact (he).symm | omega), rfl, rfl, rfl, rfl, rfl⟩

set_option maxHeartbeats 4000000 in
set_option maxRecDepth 100000 in
theorem mX7_massOf (l : Launch) (G : GG) {z : Nat} {K N : Nat → Nat} {I : MI} {R : MR} {o : Nat} (hM : ShM G z K N R o) (hO : Ok (I (o + 1))) {sm : Int} (hs : 0 ≤ sm ∧ sm < 2147483648) : Cod l G yX7_massOf (Cond.code yX7_massOf cX7_massOf 4 (some .int) :: wsL_law) ⟨0, 0, 0, 0⟩ [.ref o, .int (zI sm)] z K N I R (some (.int (zI (massA (I (o + 1)) sm)))) I R := by
  refine Con.of (own := RX7) (cc := cX7_massOf) (maxL := 4) (ret := (some .int)) (by decide +kernel) rfl rfl (Nat.le_of_ble_eq_true rfl) (by decide) rfl ?_
  intro p e9 s mt args below meth c Q hin hQ C
  obtain ⟨ho, ⟨r0, r1, r3, r4, r5, r7, r8⟩, ⟨k1, k2, k3, k4, k5, k6, k7⟩, n1, n2, n3, n4, n5, n6, n7⟩ := id hM
  have h3 := hO.2.2.2.1
  have hloop : ∀ (n i : Nat), (i : Int) ≤ I (o + 1) 3 → I (o + 1) 3 - i < n → Zq p l e9 ⟨0, 0, 0, 0⟩ s mt args below meth c G 4 Q 0 0 z K N I R 5 [(0, .ref o), (1, .int (zI sm)), (2, .int (zI (massS (fun r => I (o + 1) (6 + r)) sm i))), (3, .int (zI (i : Int)))] [] := by
    intro n
    induction n with
    | zero => intro i h1 h2; exact absurd h2 (by omega)
    | succ n ih =>
      intro i h1 h2
      refine z_iload_n C dX7_massOf_5 rfl ?_
      refine z_aload_n C dX7_massOf_6 rfl ?_
      refine z_gR C (ci := 7) (k := 0) rfl (by decide) rfl (by decide) wl_7 wq_4_3 (by decide) dX7_massOf_7 (by assumption) (by assumption) ?_
      refine z_iconst C dX7_massOf_10 ?_
      refine z_ialdk C (3) dX7_massOf_11 (by assumption) (by first | rfl | omega) (by omega) (by omega) ?_
      refine z_icmp_ge C (tgt := 39) dX7_massOf_12 (by decide) (by omega) (by omega) (fun h12 => ?_) (fun h12 => ?_)
      · refine z_iload_n C dX7_massOf_39 rfl ?_
        exact z_iret2 C hQ rfl dX7_massOf_40 ⟨zr (by unfold massA; congr 1; omega), rfl, rfl, rfl, rfl, rfl⟩
      · refine z_iload_n C dX7_massOf_15 rfl ?_
        refine z_iload_n C dX7_massOf_16 rfl ?_
        refine z_iload_n C dX7_massOf_17 rfl ?_
        refine z_ishr C dX7_massOf_18 (zI_shr (by omega) (by omega)) ?_
        refine z_iconst C dX7_massOf_19 ?_
        refine z_iand C dX7_massOf_20 (zI_and1 _) ?_
        refine z_aload_n C dX7_massOf_21 rfl ?_
        refine z_gR C (ci := 7) (k := 0) rfl (by decide) rfl (by decide) wl_7 wq_4_3 (by decide) dX7_massOf_22 (by assumption) (by assumption) ?_
        refine z_bipush C dX7_massOf_25 (by decide) ?_
        refine z_iload_n C dX7_massOf_27 rfl ?_
        refine z_iadd C dX7_massOf_28 ?_
        refine z_ialdk C (6 + i) dX7_massOf_29 (by assumption) (by first | rfl | omega) (by omega) (by omega) ?_
        refine z_imul C dX7_massOf_30 ?_
        refine z_iadd C dX7_massOf_31 ?_
        refine z_istore_n C dX7_massOf_32 (by decide) rfl ?_
        refine z_iinc C dX7_massOf_33 rfl (by decide) rfl ?_
        refine z_goto C (tgt := 5) dX7_massOf_36 (by decide) ?_
        exact ih (i + 1) (by omega) (by omega)
  refine z_bipush C dX7_massOf_0 (by decide) ?_
  refine z_istore_n C dX7_massOf_2 (by decide) rfl ?_
  refine z_iconst C dX7_massOf_3 ?_
  refine z_istore_n C dX7_massOf_4 (by decide) rfl ?_
  exact hloop 15 0 (by omega) (by omega)

set_option maxHeartbeats 4000000 in
set_option maxRecDepth 100000 in
theorem mX7_weightOf (l : Launch) (G : GG) {z : Nat} {K N : Nat → Nat} {I : MI} {R : MR} {o : Nat} (hM : ShM G z K N R o) {m air : Int} (hm : 100 ≤ m ∧ m ≤ 140086) (ha : 0 ≤ air ∧ air ≤ 9) : Cod l G yX7_weightOf (Cond.code yX7_weightOf cX7_weightOf 3 (some .int) :: wsL_law) ⟨1, 0, 0, 21⟩ [.ref o, .int (zI m), .int (zI air)] z K N I R (some (.int (zI (wgt m air)))) I R := by
  refine Con.of (own := RX7) (cc := cX7_weightOf) (maxL := 3) (ret := (some .int)) (by decide +kernel) rfl rfl (Nat.le_of_ble_eq_true rfl) (by decide) rfl ?_
  intro p e9 s mt args below meth c Q hin hQ C
  obtain ⟨ho, ⟨r0, r1, r3, r4, r5, r7, r8⟩, ⟨k1, k2, k3, k4, k5, k6, k7⟩, n1, n2, n3, n4, n5, n6, n7⟩ := id hM
  have hr := air_rng hm ha
  refine z_iload_n C dX7_weightOf_0 rfl ?_
  refine z_iload_n C dX7_weightOf_1 rfl ?_
  refine z_bipush C dX7_weightOf_2 (by decide) ?_
  refine z_iconst C dX7_weightOf_4 ?_
  refine z_iload_n C dX7_weightOf_5 rfl ?_
  refine z_imul C dX7_weightOf_6 ?_
  refine z_iadd C dX7_weightOf_7 ?_
  refine z_imul C dX7_weightOf_8 ?_
  refine z_ldc C (n := 100000) dX7_weightOf_9 wq_10_6 ?_
  refine z_callSd C (mX7_rounded l G (by omega) (by omega)) (va_cwS 2 C.2.2.2.2.1 gv7_44 rfl rfl rfl hs_X7_rounded ⟨Nat.le_of_ble_eq_true rfl, Nat.le_of_ble_eq_true rfl⟩) rfl rfl (Nat.le_of_ble_eq_true rfl) dX7_weightOf_11 ⟨Nat.zero_le _, Nat.zero_le _⟩ ?_
  refine z_isub C dX7_weightOf_14 ?_
  exact z_iret2 C hQ rfl dX7_weightOf_15 ⟨rfl, rfl, rfl, rfl, rfl, rfl⟩

set_option maxHeartbeats 4000000 in
set_option maxRecDepth 100000 in
theorem mX7_pressureBy (l : Launch) (G : GG) {z : Nat} {K N : Nat → Nat} {I : MI} {R : MR} {o : Nat} (hM : ShM G z K N R o) (hO : Ok (I (o + 1))) {m air : Int} (hm : 100 ≤ m ∧ m ≤ 140086) (ha : 0 ≤ air ∧ air ≤ 9) : Cod l G yX7_pressureBy (Cond.code yX7_pressureBy cX7_pressureBy 3 (some .int) :: wsL_law) ⟨2, 0, 0, 43⟩ [.ref o, .int (zI m), .int (zI air)] z K N I R (some (.int (zI (prs m air (I (o + 1) 1))))) I R := by
  refine Con.of (own := RX7) (cc := cX7_pressureBy) (maxL := 3) (ret := (some .int)) (by decide +kernel) rfl rfl (Nat.le_of_ble_eq_true rfl) (by decide) rfl ?_
  intro p e9 s mt args below meth c Q hin hQ C
  obtain ⟨ho, ⟨r0, r1, r3, r4, r5, r7, r8⟩, ⟨k1, k2, k3, k4, k5, k6, k7⟩, n1, n2, n3, n4, n5, n6, n7⟩ := id hM
  have hr := wgt_rng hm ha
  have h1 := hO.2.1
  refine z_aload_n C dX7_pressureBy_0 rfl ?_
  refine z_iload_n C dX7_pressureBy_1 rfl ?_
  refine z_iload_n C dX7_pressureBy_2 rfl ?_
  refine z_callVd C (ci := 7) rfl (by decide) (by assumption) (mX7_weightOf l G hM hm ha) (cwV 2 C.2.2.2.2.1 gv7_48 rfl rfl rfl hd_X7_weightOf ⟨Nat.le_of_ble_eq_true rfl, Nat.le_of_ble_eq_true rfl⟩) rfl rfl (Nat.le_of_ble_eq_true rfl) dX7_pressureBy_3 ⟨Nat.zero_le _, Nat.zero_le _⟩ ?_
  refine z_bipush C dX7_pressureBy_6 (by decide) ?_
  refine z_imul C dX7_pressureBy_8 ?_
  refine z_aload_n C dX7_pressureBy_9 rfl ?_
  refine z_gR C (ci := 7) (k := 0) rfl (by decide) rfl (by decide) wl_7 wq_4_3 (by decide) dX7_pressureBy_10 (by assumption) (by assumption) ?_
  refine z_iconst C dX7_pressureBy_13 ?_
  refine z_ialdk C (1) dX7_pressureBy_14 (by assumption) (by first | rfl | omega) (by omega) (by omega) ?_
  refine z_idiv C dX7_pressureBy_15 (by omega) (by omega) ?_
  exact z_iret2 C hQ rfl dX7_pressureBy_16 ⟨rfl, rfl, rfl, rfl, rfl, rfl⟩

set_option maxHeartbeats 4000000 in
set_option maxRecDepth 100000 in
theorem mX7_pressureOf (l : Launch) (G : GG) {z : Nat} {K N : Nat → Nat} {I : MI} {R : MR} {o : Nat} (hM : ShM G z K N R o) (hO : Ok (I (o + 1))) {sm : Int} (hs : 0 ≤ sm ∧ sm < 2147483648) : Cod l G yX7_pressureOf (Cond.code yX7_pressureOf cX7_pressureOf 2 (some .int) :: wsL_law) ⟨3, 0, 0, 65⟩ [.ref o, .int (zI sm)] z K N I R (some (.int (zI (prsA (I (o + 1)) sm)))) I R := by
  refine Con.of (own := RX7) (cc := cX7_pressureOf) (maxL := 2) (ret := (some .int)) (by decide +kernel) rfl rfl (Nat.le_of_ble_eq_true rfl) (by decide) rfl ?_
  intro p e9 s mt args below meth c Q hin hQ C
  obtain ⟨ho, ⟨r0, r1, r3, r4, r5, r7, r8⟩, ⟨k1, k2, k3, k4, k5, k6, k7⟩, n1, n2, n3, n4, n5, n6, n7⟩ := id hM
  refine z_aload_n C dX7_pressureOf_0 rfl ?_
  refine z_aload_n C dX7_pressureOf_1 rfl ?_
  refine z_iload_n C dX7_pressureOf_2 rfl ?_
  refine z_callVd C (ci := 7) rfl (by decide) (by assumption) (mX7_massOf l G hM hO hs) (cwV 1 C.2.2.2.2.1 gv7_51 rfl rfl rfl hd_X7_massOf ⟨Nat.le_of_ble_eq_true rfl, Nat.le_of_ble_eq_true rfl⟩) rfl rfl (Nat.le_of_ble_eq_true rfl) dX7_pressureOf_3 ⟨Nat.zero_le _, Nat.zero_le _⟩ ?_
  refine z_aload_n C dX7_pressureOf_6 rfl ?_
  refine z_gR C (ci := 7) (k := 0) rfl (by decide) rfl (by decide) wl_7 wq_4_3 (by decide) dX7_pressureOf_7 (by assumption) (by assumption) ?_
  refine z_iconst C dX7_pressureOf_10 ?_
  refine z_ialdk C (0) dX7_pressureOf_11 (by assumption) (by first | rfl | omega) (by omega) (by omega) ?_
  refine z_callVd C (ci := 7) rfl (by decide) (by assumption) (mX7_pressureBy l G hM hO (massA_rng hO sm) hO.1) (cwV 2 C.2.2.2.2.1 gv7_55 rfl rfl rfl hd_X7_pressureBy ⟨Nat.le_of_ble_eq_true rfl, Nat.le_of_ble_eq_true rfl⟩) rfl rfl (Nat.le_of_ble_eq_true rfl) dX7_pressureOf_12 ⟨Nat.zero_le _, Nat.zero_le _⟩ ?_
  exact z_iret2 C hQ rfl dX7_pressureOf_15 ⟨rfl, rfl, rfl, rfl, rfl, rfl⟩

set_option maxHeartbeats 4000000 in
set_option maxRecDepth 100000 in
theorem mX7_part (l : Launch) (G : GG) {z : Nat} {K N : Nat → Nat} {I : MI} {R : MR} {o : Nat} (hM : ShM G z K N R o) {g q : Int} (hg : 0 ≤ g ∧ g < 6) (hq : 0 ≤ q ∧ q < 36) : Cod l G yX7_part (Cond.code yX7_part cX7_part 3 (some .int) :: wsL_law) ⟨0, 0, 0, 0⟩ [.ref o, .int (zI g), .int (zI q)] z K N I R (some (.int (zI (I (o + 1) (20 + 36 * g + q).toNat)))) I R := by
  refine Con.of (own := RX7) (cc := cX7_part) (maxL := 3) (ret := (some .int)) (by decide +kernel) rfl rfl (Nat.le_of_ble_eq_true rfl) (by decide) rfl ?_
  intro p e9 s mt args below meth c Q hin hQ C
  obtain ⟨ho, ⟨r0, r1, r3, r4, r5, r7, r8⟩, ⟨k1, k2, k3, k4, k5, k6, k7⟩, n1, n2, n3, n4, n5, n6, n7⟩ := id hM
  refine z_aload_n C dX7_part_0 rfl ?_
  refine z_gR C (ci := 7) (k := 0) rfl (by decide) rfl (by decide) wl_7 wq_4_3 (by decide) dX7_part_1 (by assumption) (by assumption) ?_
  refine z_bipush C dX7_part_4 (by decide) ?_
  refine z_bipush C dX7_part_6 (by decide) ?_
  refine z_iload_n C dX7_part_8 rfl ?_
  refine z_imul C dX7_part_9 ?_
  refine z_iadd C dX7_part_10 ?_
  refine z_iload_n C dX7_part_11 rfl ?_
  refine z_iadd C dX7_part_12 ?_
  refine z_iald C dX7_part_13 (by assumption) (by omega) (by omega) ?_
  exact z_iret2 C hQ rfl dX7_part_14 ⟨rfl, rfl, rfl, rfl, rfl, rfl⟩

set_option maxHeartbeats 4000000 in
set_option maxRecDepth 100000 in
theorem mX7_setPart (l : Launch) (G : GG) {z : Nat} {K N : Nat → Nat} {I : MI} {R : MR} {o : Nat} (hM : ShM G z K N R o) {g q v : Int} (hg : 0 ≤ g ∧ g < 6) (hq : 0 ≤ q ∧ q < 36) : Cod l G yX7_setPart (Cond.code yX7_setPart cX7_setPart 4 none :: wsL_law) ⟨0, 0, 0, 0⟩ [.ref o, .int (zI g), .int (zI q), .int (zI v)] z K N I R none (u2 I (o + 1) (20 + 36 * g + q).toNat v) R := by
  refine Con.of (own := RX7) (cc := cX7_setPart) (maxL := 4) (ret := none) (by decide +kernel) rfl rfl (Nat.le_of_ble_eq_true rfl) (by decide) rfl ?_
  intro p e9 s mt args below meth c Q hin hQ C
  obtain ⟨ho, ⟨r0, r1, r3, r4, r5, r7, r8⟩, ⟨k1, k2, k3, k4, k5, k6, k7⟩, n1, n2, n3, n4, n5, n6, n7⟩ := id hM
  refine z_aload_n C dX7_setPart_0 rfl ?_
  refine z_gR C (ci := 7) (k := 0) rfl (by decide) rfl (by decide) wl_7 wq_4_3 (by decide) dX7_setPart_1 (by assumption) (by assumption) ?_
  refine z_bipush C dX7_setPart_4 (by decide) ?_
  refine z_bipush C dX7_setPart_6 (by decide) ?_
  refine z_iload_n C dX7_setPart_8 rfl ?_
  refine z_imul C dX7_setPart_9 ?_
  refine z_iadd C dX7_setPart_10 ?_
  refine z_iload_n C dX7_setPart_11 rfl ?_
  refine z_iadd C dX7_setPart_12 ?_
  refine z_iload_n C dX7_setPart_13 rfl ?_
  refine z_iast C dX7_setPart_14 (by assumption) (by omega) (by omega) ?_
  exact z_vret2 C hQ rfl dX7_setPart_15 ⟨rfl, rfl, rfl, rfl, rfl, rfl⟩

set_option maxHeartbeats 4000000 in
set_option maxRecDepth 100000 in
theorem mX7_truth (l : Launch) (G : GG) {z : Nat} {K N : Nat → Nat} {I : MI} {R : MR} {q e : Int} (hp : 0 ≤ q ∧ q ≤ 14008600) (he : -99 ≤ e ∧ e ≤ 99) : Cod l G yX7_truth (Cond.code yX7_truth cX7_truth 3 (some .int) :: wsL_law) ⟨1, 0, 0, 20⟩ [.int (zI q), .int (zI e)] z K N I R (some (.int (zI (tru q e)))) I R := by
  refine Con.of (own := RX7) (cc := cX7_truth) (maxL := 3) (ret := (some .int)) (by decide +kernel) rfl rfl (Nat.le_of_ble_eq_true rfl) (by decide) rfl ?_
  intro p e9 s mt args below meth c Q hin hQ C
  have hr := tru_rng hp he
  refine z_iload_n C dX7_truth_0 rfl ?_
  refine z_iload_n C dX7_truth_1 rfl ?_
  refine z_callSd C (mX7_size l G (by omega)) (va_cwS 1 C.2.2.2.2.1 gv7_58 rfl rfl rfl hs_X7_size ⟨Nat.le_of_ble_eq_true rfl, Nat.le_of_ble_eq_true rfl⟩) rfl rfl (Nat.le_of_ble_eq_true rfl) dX7_truth_2 ⟨Nat.zero_le _, Nat.zero_le _⟩ ?_
  refine z_imul C dX7_truth_5 ?_
  refine z_sipush C dX7_truth_6 (by decide) ?_
  refine z_idiv C dX7_truth_9 (by omega) (by omega) ?_
  refine z_istore_n C dX7_truth_10 (by decide) rfl ?_
  refine z_iload_n C dX7_truth_11 rfl ?_
  refine z_if_ge C (tgt := 21) dX7_truth_12 (by decide) (by omega) (fun h12 => ?_) (fun h12 => ?_)
  · refine z_iload_n C dX7_truth_21 rfl ?_
    refine z_iload_n C dX7_truth_22 rfl ?_
    refine z_iadd C dX7_truth_23 ?_
    exact z_iret2 C hQ rfl dX7_truth_24 ⟨zr (by unfold tru; first | rw [if_pos (by omega)] | rw [if_neg (by omega)]), rfl, rfl, rfl, rfl, rfl⟩
  · refine z_iload_n C dX7_truth_15 rfl ?_
    refine z_iload_n C dX7_truth_16 rfl ?_
    refine z_isub C dX7_truth_17 ?_
    refine z_goto C (tgt := 24) dX7_truth_18 (by decide) ?_
    exact z_iret2 C hQ rfl dX7_truth_24 ⟨zr (by unfold tru; first | rw [if_pos (by omega)] | rw [if_neg (by omega)]), rfl, rfl, rfl, rfl, rfl⟩

set_option maxHeartbeats 4000000 in
set_option maxRecDepth 100000 in
theorem mX7_goesTo (l : Launch) (G : GG) {z : Nat} {K N : Nat → Nat} {I : MI} {R : MR} {h q e pl : Int} (hp : 0 ≤ q ∧ q ≤ 14008600) (he : -99 ≤ e ∧ e ≤ 99) (hl : 0 ≤ pl ∧ pl ≤ 99) (hh : 0 ≤ h ∧ h ≤ 16000000) : Cod l G yX7_goesTo (Cond.code yX7_goesTo cX7_goesTo 5 (some .int) :: wsL_law) ⟨2, 0, 0, 42⟩ [.int (zI h), .int (zI q), .int (zI e), .int (zI pl)] z K N I R (some (.int (zI (goes h q e pl)))) I R := by
  refine Con.of (own := RX7) (cc := cX7_goesTo) (maxL := 5) (ret := (some .int)) (by decide +kernel) rfl rfl (Nat.le_of_ble_eq_true rfl) (by decide) rfl ?_
  intro p e9 s mt args below meth c Q hin hQ C
  have hr := (tru_rng hp he).2
  refine z_iload_n C dX7_goesTo_0 rfl ?_
  refine z_iload_n C dX7_goesTo_1 rfl ?_
  refine z_callSd C (mX7_truth l G hp he) (va_cwS 2 C.2.2.2.2.1 gv7_61 rfl rfl rfl hs_X7_truth ⟨Nat.le_of_ble_eq_true rfl, Nat.le_of_ble_eq_true rfl⟩) rfl rfl (Nat.le_of_ble_eq_true rfl) dX7_goesTo_2 ⟨Nat.zero_le _, Nat.zero_le _⟩ ?_
  refine z_istore C dX7_goesTo_5 (by decide) rfl ?_
  refine z_iload_n C dX7_goesTo_7 rfl ?_
  refine z_iload C dX7_goesTo_8 rfl ?_
  refine z_iload_n C dX7_goesTo_10 rfl ?_
  refine z_isub C dX7_goesTo_11 ?_
  refine z_icmp_ge C (tgt := 22) dX7_goesTo_12 (by decide) (by omega) (by omega) (fun h12 => ?_) (fun h12 => ?_)
  · refine z_iload_n C dX7_goesTo_22 rfl ?_
    refine z_iload C dX7_goesTo_23 rfl ?_
    refine z_iload_n C dX7_goesTo_25 rfl ?_
    refine z_iadd C dX7_goesTo_26 ?_
    refine z_icmp_le C (tgt := 37) dX7_goesTo_27 (by decide) (by omega) (by omega) (fun h27 => ?_) (fun h27 => ?_)
    · refine z_iload_n C dX7_goesTo_37 rfl ?_
      exact z_iret2 C hQ rfl dX7_goesTo_38 ⟨zr (by unfold goes; (repeat' split) <;> omega), rfl, rfl, rfl, rfl, rfl⟩
    · refine z_iload C dX7_goesTo_30 rfl ?_
      refine z_iload_n C dX7_goesTo_32 rfl ?_
      refine z_iadd C dX7_goesTo_33 ?_
      refine z_goto C (tgt := 38) dX7_goesTo_34 (by decide) ?_
      exact z_iret2 C hQ rfl dX7_goesTo_38 ⟨zr (by unfold goes; (repeat' split) <;> omega), rfl, rfl, rfl, rfl, rfl⟩
  · refine z_iload C dX7_goesTo_15 rfl ?_
    refine z_iload_n C dX7_goesTo_17 rfl ?_
    refine z_isub C dX7_goesTo_18 ?_
    refine z_goto C (tgt := 38) dX7_goesTo_19 (by decide) ?_
    exact z_iret2 C hQ rfl dX7_goesTo_38 ⟨zr (by unfold goes; (repeat' split) <;> omega), rfl, rfl, rfl, rfl, rfl⟩

set_option maxHeartbeats 4000000 in
set_option maxRecDepth 100000 in
theorem mX7_reads (l : Launch) (G : GG) {z : Nat} {K N : Nat → Nat} {I : MI} {R : MR} {h b : Int} (hh : 0 ≤ h ∧ h ≤ 16000000) (hb : 1 ≤ b ∧ b ≤ 99) : Cod l G yX7_reads (Cond.code yX7_reads cX7_reads 2 (some .int) :: wsL_law) ⟨1, 0, 0, 21⟩ [.int (zI h), .int (zI b)] z K N I R (some (.int (zI (rnd h b * b)))) I R := by
  refine Con.of (own := RX7) (cc := cX7_reads) (maxL := 2) (ret := (some .int)) (by decide +kernel) rfl rfl (Nat.le_of_ble_eq_true rfl) (by decide) rfl ?_
  intro p e9 s mt args below meth c Q hin hQ C
  refine z_iload_n C dX7_reads_0 rfl ?_
  refine z_iload_n C dX7_reads_1 rfl ?_
  refine z_callSd C (mX7_rounded l G (by omega) (by omega)) (va_cwS 2 C.2.2.2.2.1 gv7_44 rfl rfl rfl hs_X7_rounded ⟨Nat.le_of_ble_eq_true rfl, Nat.le_of_ble_eq_true rfl⟩) rfl rfl (Nat.le_of_ble_eq_true rfl) dX7_reads_2 ⟨Nat.zero_le _, Nat.zero_le _⟩ ?_
  refine z_iload_n C dX7_reads_5 rfl ?_
  refine z_imul C dX7_reads_6 ?_
  exact z_iret2 C hQ rfl dX7_reads_7 ⟨rfl, rfl, rfl, rfl, rfl, rfl⟩

set_option maxHeartbeats 4000000 in
set_option maxRecDepth 100000 in
theorem mX7_handGoes (l : Launch) (G : GG) {z : Nat} {K N : Nat → Nat} {I : MI} {R : MR} {o : Nat} (hM : ShM G z K N R o) (hO : Ok (I (o + 1))) {g : Nat} (hg : (g : Int) < I (o + 1) 5) : Cod l G yX7_handGoes (Cond.code yX7_handGoes cX7_handGoes 2 none :: wsL_law) ⟨4, 0, 0, 86⟩ [.ref o, .int (zI (g : Int))] z K N I R none (u2 I (o + 1) (23 + 36 * g) (goes (I (o + 1) (23 + 36 * g)) (prsA (I (o + 1)) (I (o + 1) 4)) (I (o + 1) (20 + 36 * g)) (I (o + 1) (21 + 36 * g)))) R := by
  refine Con.of (own := RX7) (cc := cX7_handGoes) (maxL := 2) (ret := none) (by decide +kernel) rfl rfl (Nat.le_of_ble_eq_true rfl) (by decide) rfl ?_
  intro p e9 s mt args below meth c Q hin hQ C
  obtain ⟨ho, ⟨r0, r1, r3, r4, r5, r7, r8⟩, ⟨k1, k2, k3, k4, k5, k6, k7⟩, n1, n2, n3, n4, n5, n6, n7⟩ := id hM
  have h4 := Ok4 hO
  have h5 := hO.2.2.2.2.2.1
  obtain ⟨c1, c2, c3, c4, c5⟩ := hO.2.2.2.2.2.2.2 g hg
  have e3 : (20 + 36 * (g : Int) + 3).toNat = 23 + 36 * g := by omega
  have e0 : (20 + 36 * (g : Int) + 0).toNat = 20 + 36 * g := by omega
  have e1 : (20 + 36 * (g : Int) + 1).toNat = 21 + 36 * g := by omega
  refine z_aload_n C dX7_handGoes_0 rfl ?_
  refine z_iload_n C dX7_handGoes_1 rfl ?_
  refine z_iconst C dX7_handGoes_2 ?_
  refine z_aload_n C dX7_handGoes_3 rfl ?_
  refine z_iload_n C dX7_handGoes_4 rfl ?_
  refine z_iconst C dX7_handGoes_5 ?_
  refine z_callVd C (ci := 7) rfl (by decide) (by assumption) (mX7_part l G hM (by omega) (by omega)) (cwV 2 C.2.2.2.2.1 gv7_64 rfl rfl rfl hd_X7_part ⟨Nat.le_of_ble_eq_true rfl, Nat.le_of_ble_eq_true rfl⟩) rfl rfl (Nat.le_of_ble_eq_true rfl) dX7_handGoes_6 ⟨Nat.zero_le _, Nat.zero_le _⟩ ?_
  refine z_aload_n C dX7_handGoes_9 rfl ?_
  refine z_aload_n C dX7_handGoes_10 rfl ?_
  refine z_gR C (ci := 7) (k := 0) rfl (by decide) rfl (by decide) wl_7 wq_4_3 (by decide) dX7_handGoes_11 (by assumption) (by assumption) ?_
  refine z_iconst C dX7_handGoes_14 ?_
  refine z_ialdk C (4) dX7_handGoes_15 (by assumption) (by first | rfl | omega) (by omega) (by omega) ?_
  refine z_callVd C (ci := 7) rfl (by decide) (by assumption) (mX7_pressureOf l G hM hO (by omega)) (cwV 1 C.2.2.2.2.1 gv7_67 rfl rfl rfl hd_X7_pressureOf ⟨Nat.le_of_ble_eq_true rfl, Nat.le_of_ble_eq_true rfl⟩) rfl rfl (Nat.le_of_ble_eq_true rfl) dX7_handGoes_16 ⟨Nat.zero_le _, Nat.zero_le _⟩ ?_
  refine z_aload_n C dX7_handGoes_19 rfl ?_
  refine z_iload_n C dX7_handGoes_20 rfl ?_
  refine z_iconst C dX7_handGoes_21 ?_
  refine z_callVd C (ci := 7) rfl (by decide) (by assumption) (mX7_part l G hM (by omega) (by omega)) (cwV 2 C.2.2.2.2.1 gv7_64 rfl rfl rfl hd_X7_part ⟨Nat.le_of_ble_eq_true rfl, Nat.le_of_ble_eq_true rfl⟩) rfl rfl (Nat.le_of_ble_eq_true rfl) dX7_handGoes_22 ⟨Nat.zero_le _, Nat.zero_le _⟩ ?_
  refine z_aload_n C dX7_handGoes_25 rfl ?_
  refine z_iload_n C dX7_handGoes_26 rfl ?_
  refine z_iconst C dX7_handGoes_27 ?_
  refine z_callVd C (ci := 7) rfl (by decide) (by assumption) (mX7_part l G hM (by omega) (by omega)) (cwV 2 C.2.2.2.2.1 gv7_64 rfl rfl rfl hd_X7_part ⟨Nat.le_of_ble_eq_true rfl, Nat.le_of_ble_eq_true rfl⟩) rfl rfl (Nat.le_of_ble_eq_true rfl) dX7_handGoes_28 ⟨Nat.zero_le _, Nat.zero_le _⟩ ?_
  rw [e3, e0, e1]
  refine z_callSd C (mX7_goesTo l G (prsA_rng hO _) c1 c2 c4) (va_cwS 4 C.2.2.2.2.1 gv7_70 rfl rfl rfl hs_X7_goesTo ⟨Nat.le_of_ble_eq_true rfl, Nat.le_of_ble_eq_true rfl⟩) rfl rfl (Nat.le_of_ble_eq_true rfl) dX7_handGoes_31 ⟨Nat.zero_le _, Nat.zero_le _⟩ ?_
  refine z_callVd C (ci := 7) rfl (by decide) (by assumption) (mX7_setPart l G hM (by omega) (by omega)) (cwV 3 C.2.2.2.2.1 gv7_74 rfl rfl rfl hd_X7_setPart ⟨Nat.le_of_ble_eq_true rfl, Nat.le_of_ble_eq_true rfl⟩) rfl rfl (Nat.le_of_ble_eq_true rfl) dX7_handGoes_34 ⟨Nat.zero_le _, Nat.zero_le _⟩ ?_
  rw [e3]
  exact z_vret2 C hQ rfl dX7_handGoes_37 ⟨rfl, rfl, rfl, rfl, rfl, rfl⟩

set_option maxHeartbeats 4000000 in
set_option maxRecDepth 100000 in
theorem mX7_handsGo (l : Launch) (G : GG) {z : Nat} {K N : Nat → Nat} {I : MI} {R : MR} {o : Nat} (hM : ShM G z K N R o) (hO : Ok (I (o + 1))) : Cod l G yX7_handsGo (Cond.code yX7_handsGo cX7_handsGo 2 none :: wsL_law) ⟨5, 0, 0, 107⟩ [.ref o] z K N I R none (va_up I (o + 1) (handsF (I (o + 1)))) R := by
  refine Con.of (own := RX7) (cc := cX7_handsGo) (maxL := 2) (ret := none) (by decide +kernel) rfl rfl (Nat.le_of_ble_eq_true rfl) (by decide) rfl ?_
  intro p e9 s mt args below meth c Q hin hQ C
  obtain ⟨ho, ⟨r0, r1, r3, r4, r5, r7, r8⟩, ⟨k1, k2, k3, k4, k5, k6, k7⟩, n1, n2, n3, n4, n5, n6, n7⟩ := id hM
  have h5 := hO.2.2.2.2.2.1
  have h3 := hO.2.2.2.1
  have hloop : ∀ (n : Nat) (i : Nat), (i : Int) ≤ I (o + 1) 5 → I (o + 1) 5 - i < n → Zq p l e9 ⟨5, 0, 0, 107⟩ s mt args below meth c G 2 Q 0 0 z K N (va_up I (o + 1) (handsP (prsA (I (o + 1)) (I (o + 1) 4)) i (I (o + 1)))) R 2 [(0, .ref o), (1, .int (zI (i : Int)))] [] := by
    intro n
    induction n with
    | zero => intro i h1 h2; exact absurd h2 (by omega)
    | succ n ih =>
      intro i h1 h2
      refine z_iload_n C dX7_handsGo_2 rfl ?_
      refine z_aload_n C dX7_handsGo_3 rfl ?_
      refine z_gR C (ci := 7) (k := 0) rfl (by decide) rfl (by decide) wl_7 wq_4_3 (by decide) dX7_handsGo_4 (by assumption) (by assumption) ?_
      refine z_iconst C dX7_handsGo_7 ?_
      refine z_ialdk C (5) dX7_handsGo_8 (by assumption) (by first | rfl | omega) (by omega) (by omega) ?_
      rw [va_up_s, handsP_lo (j := 5) (by omega)]
      refine z_icmp_ge C (tgt := 23) dX7_handsGo_9 (by decide) (by omega) (by omega) (fun h9 => ?_) (fun h9 => ?_)
      · exact z_vret2 C hQ rfl dX7_handsGo_23 ⟨rfl, rfl, rfl, rfl, by rw [show i = (I (o + 1) 5).toNat by omega]; rfl, rfl⟩
      · refine z_aload_n C dX7_handsGo_12 rfl ?_
        refine z_iload_n C dX7_handsGo_13 rfl ?_
        refine z_callVd C (ci := 7) rfl (by decide) (by assumption) (mX7_handGoes l G hM (by rw [va_up_s]; exact hO.hands (prsA_rng hO _) i) (g := i) (by rw [va_up_s, handsP_lo (j := 5) (by omega)]; omega)) (cwV 1 C.2.2.2.2.1 gv7_78 rfl rfl rfl hd_X7_handGoes ⟨Nat.le_of_ble_eq_true rfl, Nat.le_of_ble_eq_true rfl⟩) rfl rfl (Nat.le_of_ble_eq_true rfl) dX7_handsGo_14 ⟨Nat.zero_le _, Nat.zero_le _⟩ ?_
        rw [va_up_s, prsA_cong h3.2 (fun j hj => handsP_lo (by omega)), handsP_lo (j := 4) (by omega), hands_step]
        refine z_iinc C dX7_handsGo_17 rfl (by decide) rfl ?_
        refine z_goto C (tgt := 2) dX7_handsGo_20 (by decide) ?_
        exact ih (i + 1) (by omega) (by omega)
  refine z_iconst C dX7_handsGo_0 ?_
  refine z_istore_n C dX7_handsGo_1 (by decide) rfl ?_
  refine z_mem (I' := va_up I (o + 1) (handsP (prsA (I (o + 1)) (I (o + 1) 4)) 0 (I (o + 1)))) ?_ rfl ?_
  · rw [show handsP (prsA (I (o + 1)) (I (o + 1) 4)) 0 (I (o + 1)) = I (o + 1) from funext fun j => if_neg (by omega), va_upS]
  exact hloop 7 0 (by omega) (by omega)

set_option maxHeartbeats 4000000 in
set_option maxRecDepth 100000 in
theorem mX7_voids (l : Launch) (G : GG) {z : Nat} {K N : Nat → Nat} {I : MI} {R : MR} {o : Nat} (hM : ShM G z K N R o) {g : Nat} (hg : g < 6) : Cod l G yX7_voids (Cond.code yX7_voids cX7_voids 3 none :: wsL_law) ⟨1, 0, 0, 23⟩ [.ref o, .int (zI (g : Int))] z K N I R none (va_up I (o + 1) (voidF g (I (o + 1)))) R := by
  refine Con.of (own := RX7) (cc := cX7_voids) (maxL := 3) (ret := none) (by decide +kernel) rfl rfl (Nat.le_of_ble_eq_true rfl) (by decide) rfl ?_
  intro p e9 s mt args below meth c Q hin hQ C
  obtain ⟨ho, ⟨r0, r1, r3, r4, r5, r7, r8⟩, ⟨k1, k2, k3, k4, k5, k6, k7⟩, n1, n2, n3, n4, n5, n6, n7⟩ := id hM
  have hloop : ∀ (n : Nat) (k : Nat), 4 ≤ k → k ≤ 36 → 36 - k < n → Zq p l e9 ⟨1, 0, 0, 23⟩ s mt args below meth c G 3 Q 0 0 z K N (va_up I (o + 1) (voidK g k (I (o + 1)))) R 2 [(0, .ref o), (1, .int (zI (g : Int))), (2, .int (zI (k : Int)))] [] := by
    intro n
    induction n with
    | zero => intro k h0 h1 h2; exact absurd h2 (by omega)
    | succ n ih =>
      intro k h0 h1 h2
      refine z_iload_n C dX7_voids_2 rfl ?_
      refine z_bipush C dX7_voids_3 (by decide) ?_
      refine z_icmp_ge C (tgt := 21) dX7_voids_5 (by decide) (by omega) (by omega) (fun h5 => ?_) (fun h5 => ?_)
      · exact z_vret2 C hQ rfl dX7_voids_21 ⟨rfl, rfl, rfl, rfl, by rw [show k = 36 by omega]; rfl, rfl⟩
      · refine z_aload_n C dX7_voids_8 rfl ?_
        refine z_iload_n C dX7_voids_9 rfl ?_
        refine z_iload_n C dX7_voids_10 rfl ?_
        refine z_iconst C dX7_voids_11 ?_
        refine z_callVd C (ci := 7) rfl (by decide) (by assumption) (mX7_setPart l G hM (by omega) (by omega)) (cwV 3 C.2.2.2.2.1 gv7_74 rfl rfl rfl hd_X7_setPart ⟨Nat.le_of_ble_eq_true rfl, Nat.le_of_ble_eq_true rfl⟩) rfl rfl (Nat.le_of_ble_eq_true rfl) dX7_voids_12 ⟨Nat.zero_le _, Nat.zero_le _⟩ ?_
        rw [show (20 + 36 * (g : Int) + (k : Int)).toNat = 20 + 36 * g + k by omega, void_step _ _ _ _ _ h0]
        refine z_iinc C dX7_voids_15 rfl (by decide) rfl ?_
        refine z_goto C (tgt := 2) dX7_voids_18 (by decide) ?_
        exact ih (k + 1) (by omega) (by omega) (by omega)
  refine z_iconst C dX7_voids_0 ?_
  refine z_istore_n C dX7_voids_1 (by decide) rfl ?_
  refine z_mem (I' := va_up I (o + 1) (voidK g 4 (I (o + 1)))) (by rw [void_0, va_upS]) rfl ?_
  exact hloop 33 4 (by omega) (by omega) (by omega)

set_option maxHeartbeats 4000000 in
set_option maxRecDepth 100000 in
theorem mX7_voidsAll (l : Launch) (G : GG) {z : Nat} {K N : Nat → Nat} {I : MI} {R : MR} {o : Nat} (hM : ShM G z K N R o) : Cod l G yX7_voidsAll (Cond.code yX7_voidsAll cX7_voidsAll 2 none :: wsL_law) ⟨2, 0, 0, 45⟩ [.ref o] z K N I R none (va_up I (o + 1) (voidsF (I (o + 1)))) R := by
  refine Con.of (own := RX7) (cc := cX7_voidsAll) (maxL := 2) (ret := none) (by decide +kernel) rfl rfl (Nat.le_of_ble_eq_true rfl) (by decide) rfl ?_
  intro p e9 s mt args below meth c Q hin hQ C
  obtain ⟨ho, ⟨r0, r1, r3, r4, r5, r7, r8⟩, ⟨k1, k2, k3, k4, k5, k6, k7⟩, n1, n2, n3, n4, n5, n6, n7⟩ := id hM
  have hloop : ∀ (n : Nat) (i : Nat), i ≤ 6 → 6 - i < n → Zq p l e9 ⟨2, 0, 0, 45⟩ s mt args below meth c G 2 Q 0 0 z K N (va_up I (o + 1) (voidN i (I (o + 1)))) R 2 [(0, .ref o), (1, .int (zI (i : Int)))] [] := by
    intro n
    induction n with
    | zero => intro i h1 h2; exact absurd h2 (by omega)
    | succ n ih =>
      intro i h1 h2
      refine z_iload_n C dX7_voidsAll_2 rfl ?_
      refine z_bipush C dX7_voidsAll_3 (by decide) ?_
      refine z_icmp_ge C (tgt := 19) dX7_voidsAll_5 (by decide) (by omega) (by omega) (fun h5 => ?_) (fun h5 => ?_)
      · exact z_vret2 C hQ rfl dX7_voidsAll_19 ⟨rfl, rfl, rfl, rfl, by rw [show i = 6 by omega]; rfl, rfl⟩
      · refine z_aload_n C dX7_voidsAll_8 rfl ?_
        refine z_iload_n C dX7_voidsAll_9 rfl ?_
        refine z_callVd C (ci := 7) rfl (by decide) (by assumption) (mX7_voids l G hM (g := i) (by omega)) (cwV 1 C.2.2.2.2.1 gv7_82 rfl rfl rfl hd_X7_voids ⟨Nat.le_of_ble_eq_true rfl, Nat.le_of_ble_eq_true rfl⟩) rfl rfl (Nat.le_of_ble_eq_true rfl) dX7_voidsAll_10 ⟨Nat.zero_le _, Nat.zero_le _⟩ ?_
        rw [va_up_s, va_up2, voidN_step]
        refine z_iinc C dX7_voidsAll_13 rfl (by decide) rfl ?_
        refine z_goto C (tgt := 2) dX7_voidsAll_16 (by decide) ?_
        exact ih (i + 1) (by omega) (by omega)
  refine z_iconst C dX7_voidsAll_0 ?_
  refine z_istore_n C dX7_voidsAll_1 (by decide) rfl ?_
  refine z_mem (I' := va_up I (o + 1) (voidN 0 (I (o + 1)))) (by rw [voidN_0, va_upS]) rfl ?_
  exact hloop 7 0 (by omega) (by omega)

set_option maxHeartbeats 4000000 in
set_option maxRecDepth 100000 in
theorem mX7_certificates (l : Launch) (G : GG) {z : Nat} {K N : Nat → Nat} {I : MI} {R : MR} {o : Nat} (hM : ShM G z K N R o) (hO : Ok (I (o + 1))) : Cod l G yX7_certificates (Cond.code yX7_certificates cX7_certificates 3 (some .int) :: wsL_law) ⟨1, 0, 0, 22⟩ [.ref o] z K N I R (some (.int (zI (certN (I (o + 1)) (I (o + 1) 5).toNat)))) I R := by
  refine Con.of (own := RX7) (cc := cX7_certificates) (maxL := 3) (ret := (some .int)) (by decide +kernel) rfl rfl (Nat.le_of_ble_eq_true rfl) (by decide) rfl ?_
  intro p e9 s mt args below meth c Q hin hQ C
  obtain ⟨ho, ⟨r0, r1, r3, r4, r5, r7, r8⟩, ⟨k1, k2, k3, k4, k5, k6, k7⟩, n1, n2, n3, n4, n5, n6, n7⟩ := id hM
  have h5 := hO.2.2.2.2.2.1
  have hloop : ∀ (n : Nat) (i : Nat), (i : Int) ≤ I (o + 1) 5 → I (o + 1) 5 - i < n → Zq p l e9 ⟨1, 0, 0, 22⟩ s mt args below meth c G 3 Q 0 0 z K N I R 4 [(0, .ref o), (1, .int (zI (certN (I (o + 1)) i))), (2, .int (zI (i : Int)))] [] := by
    intro n
    induction n with
    | zero => intro i h1 h2; exact absurd h2 (by omega)
    | succ n ih =>
      intro i h1 h2
      refine z_iload_n C dX7_certificates_4 rfl ?_
      refine z_aload_n C dX7_certificates_5 rfl ?_
      refine z_gR C (ci := 7) (k := 0) rfl (by decide) rfl (by decide) wl_7 wq_4_3 (by decide) dX7_certificates_6 (by assumption) (by assumption) ?_
      refine z_iconst C dX7_certificates_9 ?_
      refine z_ialdk C (5) dX7_certificates_10 (by assumption) (by first | rfl | omega) (by omega) (by omega) ?_
      refine z_icmp_ge C (tgt := 29) dX7_certificates_11 (by decide) (by omega) (by omega) (fun h11 => ?_) (fun h11 => ?_)
      · refine z_iload_n C dX7_certificates_29 rfl ?_
        exact z_iret2 C hQ rfl dX7_certificates_30 ⟨zr (by rw [show i = (I (o + 1) 5).toNat by omega]), rfl, rfl, rfl, rfl, rfl⟩
      · refine z_iload_n C dX7_certificates_14 rfl ?_
        refine z_aload_n C dX7_certificates_15 rfl ?_
        refine z_iload_n C dX7_certificates_16 rfl ?_
        refine z_iconst C dX7_certificates_17 ?_
        refine z_callVd C (ci := 7) rfl (by decide) (by assumption) (mX7_part l G hM (by omega) (by omega)) (cwV 2 C.2.2.2.2.1 gv7_64 rfl rfl rfl hd_X7_part ⟨Nat.le_of_ble_eq_true rfl, Nat.le_of_ble_eq_true rfl⟩) rfl rfl (Nat.le_of_ble_eq_true rfl) dX7_certificates_18 ⟨Nat.zero_le _, Nat.zero_le _⟩ ?_
        rw [show (20 + 36 * (i : Int) + 4).toNat = 24 + 36 * i by omega]
        refine z_iadd C dX7_certificates_21 ?_
        refine z_istore_n C dX7_certificates_22 (by decide) rfl ?_
        refine z_iinc C dX7_certificates_23 rfl (by decide) rfl ?_
        refine z_goto C (tgt := 4) dX7_certificates_26 (by decide) ?_
        exact ih (i + 1) (by omega) (by omega)
  refine z_iconst C dX7_certificates_0 ?_
  refine z_istore_n C dX7_certificates_1 (by decide) rfl ?_
  refine z_iconst C dX7_certificates_2 ?_
  refine z_istore_n C dX7_certificates_3 (by decide) rfl ?_
  exact hloop 7 0 (by omega) (by omega)

set_option maxHeartbeats 4000000 in
set_option maxRecDepth 100000 in
theorem mX7_moves (l : Launch) (G : GG) {z : Nat} {K N : Nat → Nat} {I : MI} {R : MR} {a b f t : Nat} (ha : zK G z K a 9) (hb : zK G z K b 9) (hab : a ≠ b) (hf : f + 236 ≤ N a) (ht : t + 236 ≤ N b) (hNa : N a < 10000) (hNb : N b < 10000) : Cod l G yX7_moves (Cond.code yX7_moves cX7_moves 5 none :: wsL_law) ⟨0, 0, 0, 0⟩ [.ref a, .int (zI (f : Int)), .ref b, .int (zI (t : Int))] z K N I R none (va_up I b (movF (I a) (I b) f t)) R := by
  refine Con.of (own := RX7) (cc := cX7_moves) (maxL := 5) (ret := none) (by decide +kernel) rfl rfl (Nat.le_of_ble_eq_true rfl) (by decide) rfl ?_
  intro p e9 s mt args below meth c Q hin hQ C
  have hloop : ∀ (n : Nat) (k : Nat), k ≤ 236 → 236 - k < n → Zq p l e9 ⟨0, 0, 0, 0⟩ s mt args below meth c G 5 Q 0 0 z K N (va_up I b (fun j => if t ≤ j ∧ j < t + k then I a (f + (j - t)) else I b j)) R 3 [(0, .ref a), (1, .int (zI (f : Int))), (2, .ref b), (3, .int (zI (t : Int))), (4, .int (zI (k : Int)))] [] := by
    intro n
    induction n with
    | zero => intro k h1 h2; exact absurd h2 (by omega)
    | succ n ih =>
      intro k h1 h2
      refine z_iload C dX7_moves_3 rfl ?_
      refine z_sipush C dX7_moves_5 (by decide) ?_
      refine z_icmp_ge C (tgt := 29) dX7_moves_8 (by decide) (by omega) (by omega) (fun h8 => ?_) (fun h8 => ?_)
      · exact z_vret2 C hQ rfl dX7_moves_29 ⟨rfl, rfl, rfl, rfl, by rw [show k = 236 by omega]; rfl, rfl⟩
      · refine z_aload_n C dX7_moves_11 rfl ?_
        refine z_iload_n C dX7_moves_12 rfl ?_
        refine z_iload C dX7_moves_13 rfl ?_
        refine z_iadd C dX7_moves_15 ?_
        refine z_aload_n C dX7_moves_16 rfl ?_
        refine z_iload_n C dX7_moves_17 rfl ?_
        refine z_iload C dX7_moves_18 rfl ?_
        refine z_iadd C dX7_moves_20 ?_
        refine z_ialdk C (f + k) dX7_moves_21 (by assumption) (by first | rfl | omega) (by omega) (by omega) ?_
        rw [va_up_n hab]
        refine z_iastk C (t + k) dX7_moves_22 (by assumption) (by first | rfl | omega) (by omega) (by omega) ?_
        rw [u2_va]
        refine z_mem (I' := va_up I b (fun j => if t ≤ j ∧ j < t + (k + 1) then I a (f + (j - t)) else I b j)) ?_ rfl ?_
        · congr 1
          funext j
          by_cases hj : j = t + k
          · rw [if_pos hj, if_pos (by omega), hj, show t + k - t = k by omega]
          · rw [if_neg hj]
            by_cases h : t ≤ j ∧ j < t + k
            · rw [if_pos h, if_pos (by omega)]
            · rw [if_neg h, if_neg (by omega)]
        refine z_iinc C dX7_moves_23 rfl (by decide) rfl ?_
        refine z_goto C (tgt := 3) dX7_moves_26 (by decide) ?_
        exact ih (k + 1) (by omega) (by omega)
  refine z_iconst C dX7_moves_0 ?_
  refine z_istore C dX7_moves_1 (by decide) rfl ?_
  refine z_mem (I' := va_up I b (fun j => if t ≤ j ∧ j < t + 0 then I a (f + (j - t)) else I b j)) ?_ rfl (hloop 237 0 (by omega) (by omega))
  rw [show (fun j => if t ≤ j ∧ j < t + 0 then I a (f + (j - t)) else I b j) = I b from funext fun j => if_neg (by omega), va_upS]

