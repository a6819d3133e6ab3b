set_option maxHeartbeats 4000000 in
set_option maxRecDepth 100000 in
theorem mX7_record (l : Launch) (G : GG) {z : Nat} {K N : Nat → Nat} {I : MI} {R : MR} {o : Nat} (hM : ShM G z K N R o) (hR : 0 ≤ I o 2 ∧ I o 2 ≤ 6) : Cod l G yX7_record (Cond.code yX7_record cX7_record 2 none :: wsL_law) ⟨1, 0, 0, 24⟩ [.ref o] z K N I R none (recM I o) R := by
  refine Con.of (own := RX7) (cc := cX7_record) (maxL := 2) (ret := none) (by decide +kernel) rfl rfl (Nat.le_of_ble_eq_true rfl) (by decide) rfl ?_
  intro p e9 s mt args below meth c Q hin hQ C
  obtain ⟨ho, ⟨r0, r1, r3, r4, r5, r7, r8⟩, ⟨k1, k2, k3, k4, k5, k6, k7⟩, n1, n2, n3, n4, n5, n6, n7⟩ := id hM
  have q1 : o + 1 ≠ o := by omega
  have q2 : o + 2 ≠ o := by omega
  have q12 : o + 1 ≠ o + 2 := by omega
  have q02 : o ≠ o + 2 := by omega
  have q01 : o ≠ o + 1 := by omega
  have hjoin : ∀ J : MI, J = u2 (va_up I (o + 2) (recS (I (o + 2)) (I o 2))) o 2 (recN (I o 2)) → Zq p l e9 ⟨1, 0, 0, 24⟩ s mt args below meth c G 2 Q 0 0 z K N J R 50 [(0, .ref o)] [] := by
    intro J hJ
    obtain ⟨t, ht⟩ : ∃ t : Nat, recN (I o 2) * 236 = (t : Int) ∧ t + 236 ≤ 1416 := by
      refine ⟨(recN (I o 2) * 236).toNat, ?_, ?_⟩ <;> unfold recN <;> split <;> omega
    have j2 : J o 2 = recN (I o 2) := by rw [hJ, u2_s]
    have jr1 : J (o + 1) = I (o + 1) := by rw [hJ, u2_row q1, va_up_n q12]
    have jr2 : J (o + 2) = recS (I (o + 2)) (I o 2) := by rw [hJ, u2_row q2, va_up_s]
    refine z_aload_n C dX7_record_50 rfl ?_
    refine z_gR C (ci := 7) (k := 0) rfl (by decide) rfl (by decide) wl_7 wq_4_3 (by decide) dX7_record_51 (by assumption) (by assumption) ?_
    refine z_iconst C dX7_record_54 ?_
    refine z_aload_n C dX7_record_55 rfl ?_
    refine z_gR C (ci := 7) (k := 1) rfl (by decide) rfl (by decide) wl_7 wq_4_4 (by decide) dX7_record_56 (by assumption) (by assumption) ?_
    refine z_aload_n C dX7_record_59 rfl ?_
    refine z_gI C (ci := 7) (k := 2) rfl (by decide) rfl (by decide) wl_7 wq_8_6 rfl dX7_record_60 (by assumption) ?_
    refine z_sipush C dX7_record_63 (by decide) ?_
    refine z_imul C dX7_record_66 ?_
    rw [j2, ht.1]
    refine z_callSd C (mX7_moves l G (f := 0) (t := t) k1 k2 q12 (by omega) (by omega) (by omega) (by omega)) (va_cwS 4 C.2.2.2.2.1 gv7_35 rfl rfl rfl hs_X7_moves ⟨Nat.le_of_ble_eq_true rfl, Nat.le_of_ble_eq_true rfl⟩) rfl rfl (Nat.le_of_ble_eq_true rfl) dX7_record_67 ⟨Nat.zero_le _, Nat.zero_le _⟩ ?_
    have e9 : va_up J (o + 2) (movF (J (o + 1)) (J (o + 2)) 0 t) o 2 = recN (I o 2) := by rw [va_up_n q02, j2]
    refine z_aload_n C dX7_record_70 rfl ?_
    refine z_dup C dX7_record_71 rfl ?_
    refine z_gI C (ci := 7) (k := 2) rfl (by decide) rfl (by decide) wl_7 wq_8_6 rfl dX7_record_72 (by assumption) ?_
    refine z_iconst C dX7_record_75 ?_
    refine z_iadd C dX7_record_76 ?_
    refine z_pI C (ci := 7) (k := 2) rfl (by decide) rfl (by decide) tyX7_ok nmX7 wl_7 wq_8_6 rfl (Or.inl rfl) dX7_record_77 (by assumption) ?_
    exact z_vret2 C hQ rfl dX7_record_80 ⟨rfl, rfl, rfl, rfl, by
      rw [e9, jr1, jr2]
      unfold recM recH
      rw [show (236 * recN (I o 2)).toNat = t by omega, hJ]
      funext b j
      simp only [u2, va_up]
      by_cases hb : b = o ∧ j = 2
      · rw [if_pos hb, if_pos hb]
      · rw [if_neg hb, if_neg hb]
        by_cases hc : b = o + 2
        · rw [if_pos hc, if_pos hc]
        · rw [if_neg hc, if_neg hc]; unfold u2; rw [if_neg hb, va_up_n hc], rfl⟩
  have hloop : ∀ (n : Nat) (k : Nat), I o 2 = 6 → k ≤ 1180 → 1180 - k < n → Zq p l e9 ⟨1, 0, 0, 24⟩ s mt args below meth c G 2 Q 0 0 z K N (va_up I (o + 2) (fun j => if j < k then I (o + 2) (j + 236) else I (o + 2) j)) R 11 [(0, .ref o), (1, .int (zI (k : Int)))] [] := by
    intro n
    induction n with
    | zero => intro k h0 h1 h2; exact absurd h2 (by omega)
    | succ n ih =>
      intro k h0 h1 h2
      refine z_iload_n C dX7_record_11 rfl ?_
      refine z_sipush C dX7_record_12 (by decide) ?_
      refine z_icmp_ge C (tgt := 40) dX7_record_15 (by decide) (by first | omega | exact b2i_r) (by first | omega | exact b2i_r) (fun h15 => ?_) (fun h15 => ?_)
      · refine z_aload_n C dX7_record_40 rfl ?_
        refine z_dup C dX7_record_41 rfl ?_
        refine z_gI C (ci := 7) (k := 2) rfl (by decide) rfl (by decide) wl_7 wq_8_6 rfl dX7_record_42 (by assumption) ?_
        refine z_iconst C dX7_record_45 ?_
        refine z_isub C dX7_record_46 ?_
        refine z_pI C (ci := 7) (k := 2) rfl (by decide) rfl (by decide) tyX7_ok nmX7 wl_7 wq_8_6 rfl (Or.inl rfl) dX7_record_47 (by assumption) ?_
        refine z_sub [0] rfl rfl ?_
        refine z_mem (I' := u2 (va_up I (o + 2) (recS (I (o + 2)) (I o 2))) o 2 (recN (I o 2))) ?_ rfl (hjoin _ rfl)
        rw [va_up_n q02, show I o 2 - 1 = recN (I o 2) by unfold recN; rw [if_pos h0]; omega]
        congr 2
        funext j
        unfold recS
        by_cases hj : j < k
        · rw [if_pos hj, if_pos ⟨h0, by omega⟩]
        · rw [if_neg hj, if_neg (by omega)]
      · refine z_aload_n C dX7_record_18 rfl ?_
        refine z_gR C (ci := 7) (k := 1) rfl (by decide) rfl (by decide) wl_7 wq_4_4 (by decide) dX7_record_19 (by assumption) (by assumption) ?_
        refine z_iload_n C dX7_record_22 rfl ?_
        refine z_aload_n C dX7_record_23 rfl ?_
        refine z_gR C (ci := 7) (k := 1) rfl (by decide) rfl (by decide) wl_7 wq_4_4 (by decide) dX7_record_24 (by assumption) (by assumption) ?_
        refine z_iload_n C dX7_record_27 rfl ?_
        refine z_sipush C dX7_record_28 (by decide) ?_
        refine z_iadd C dX7_record_31 ?_
        refine z_ialdk C (k + 236) dX7_record_32 (by assumption) (by first | rfl | omega) (by omega) (by omega) ?_
        rw [va_up_s, if_neg (by omega)]
        refine z_iastk C (k) dX7_record_33 (by assumption) (by first | rfl | omega) (by omega) (by omega) ?_
        rw [u2_va]
        refine z_mem (I' := va_up I (o + 2) (fun j => if j < k + 1 then I (o + 2) (j + 236) else I (o + 2) j)) ?_ rfl ?_
        · congr 1
          funext j
          by_cases hj : j = k
          · rw [if_pos hj, if_pos (by omega), hj]
          · rw [if_neg hj]
            by_cases h : j < k
            · rw [if_pos h, if_pos (by omega)]
            · rw [if_neg h, if_neg (by omega)]
        refine z_iinc C dX7_record_34 rfl (by decide) rfl ?_
        refine z_goto C (tgt := 11) dX7_record_37 (by decide) ?_
        exact ih (k + 1) h0 (by omega) (by omega)
  refine z_aload_n C dX7_record_0 rfl ?_
  refine z_gI C (ci := 7) (k := 2) rfl (by decide) rfl (by decide) wl_7 wq_8_6 rfl dX7_record_1 (by assumption) ?_
  refine z_bipush C dX7_record_4 (by decide) ?_
  refine z_icmp_ne C (tgt := 50) dX7_record_6 (by decide) (by first | omega | exact b2i_r) (by first | omega | exact b2i_r) (fun h6 => ?_) (fun h6 => ?_)
  · refine z_sub [0] rfl rfl ?_
    refine z_mem (I' := u2 (va_up I (o + 2) (recS (I (o + 2)) (I o 2))) o 2 (recN (I o 2))) ?_ rfl (hjoin _ rfl)
    have e6 : recN (I o 2) = I o 2 := if_neg h6
    rw [e6]
    funext b j
    by_cases hb : b = o ∧ j = 2
    · obtain ⟨rfl, rfl⟩ := hb
      rw [u2_s]
    · unfold u2
      rw [if_neg hb]
      by_cases hc : b = o + 2
      · subst hc
        rw [va_up_s]
        exact (if_neg (fun z => h6 z.1)).symm
      · rw [va_up_n hc]
  · refine z_iconst C dX7_record_9 ?_
    refine z_istore_n C dX7_record_10 (by decide) rfl ?_
    refine z_mem (I' := va_up I (o + 2) (fun j => if j < 0 then I (o + 2) (j + 236) else I (o + 2) j)) ?_ rfl (hloop 1181 0 h6 (by omega) (by omega))
    rw [show (fun j => if j < 0 then I (o + 2) (j + 236) else I (o + 2) j) = I (o + 2) from funext fun j => if_neg (by omega), va_upS]

theorem voidsF_lo {f : Nat → Int} {j : Nat} (h : j < 24) : voidsF f j = f j := if_neg (by omega)
theorem recM_1 (I : MI) (o : Nat) : recM I o (o + 1) = I (o + 1) := by
  unfold recM
  rw [u2_row (by omega), va_up_n (by omega)]
set_option maxHeartbeats 4000000 in
set_option maxRecDepth 100000 in
theorem mX7_isValue (l : Launch) (G : GG) {z : Nat} {K N : Nat → Nat} {I : MI} {R : MR} {sg v : Int} (hsg : -2147483648 ≤ sg ∧ sg < 2147483648) (hv : -2147483648 ≤ v ∧ v < 2147483648) : Cod l G yX7_isValue (Cond.code yX7_isValue cX7_isValue 2 (some .boolean) :: wsL_law) ⟨1, 0, 0, 22⟩ [.int (zI sg), .int (zI v)] z K N I R (some (.int (zI (b2i (isVal sg v))))) I R := by
  refine Con.of (own := RX7) (cc := cX7_isValue) (maxL := 2) (ret := (some .boolean)) (by decide +kernel) rfl rfl (Nat.le_of_ble_eq_true rfl) (by decide) rfl ?_
  intro p e9 s mt args below meth c Q hin hQ C
  refine z_iload_n C dX7_isValue_0 rfl ?_
  refine z_if_ne C (tgt := 14) dX7_isValue_1 (by decide) (by first | omega | exact b2i_r) (fun h1 => ?_) (fun h1 => ?_)
  · refine z_iload_n C dX7_isValue_14 rfl ?_
    refine z_iconst C dX7_isValue_15 ?_
    refine z_icmp_ne C (tgt := 29) dX7_isValue_16 (by decide) (by first | omega | exact b2i_r) (by first | omega | exact b2i_r) (fun h16 => ?_) (fun h16 => ?_)
    · refine z_iload_n C dX7_isValue_29 rfl ?_
      refine z_iconst C dX7_isValue_30 ?_
      refine z_icmp_ne C (tgt := 49) dX7_isValue_31 (by decide) (by first | omega | exact b2i_r) (by first | omega | exact b2i_r) (fun h31 => ?_) (fun h31 => ?_)
      · refine z_iconst C dX7_isValue_49 ?_
        exact z_zret2 C hQ rfl (by first | exact Or.inl rfl | exact Or.inr rfl | exact b2i_c | omega) dX7_isValue_50 ⟨zr (by unfold isVal; first | (apply b2i_iff; omega) | exact (b2i_t (by have := b2i_1.mp h42; omega)).symm | exact (b2i_f (by have := b2i_0.mp h42; omega)).symm | exact (b2i_f (by omega)).symm), rfl, rfl, rfl, rfl, rfl⟩
      · refine z_iload_n C dX7_isValue_34 rfl ?_
        refine z_iconst C dX7_isValue_35 ?_
        refine z_sipush C dX7_isValue_36 (by decide) ?_
        refine z_callSd C (mX7_within l G (by omega) (by omega) (by omega)) (va_cwS 3 C.2.2.2.2.1 gv7_39 rfl rfl rfl hs_X7_within ⟨Nat.le_of_ble_eq_true rfl, Nat.le_of_ble_eq_true rfl⟩) rfl rfl (Nat.le_of_ble_eq_true rfl) dX7_isValue_39 ⟨Nat.zero_le _, Nat.zero_le _⟩ ?_
        refine z_if_eq C (tgt := 49) dX7_isValue_42 (by decide) (by first | omega | exact b2i_r) (fun h42 => ?_) (fun h42 => ?_)
        · refine z_iconst C dX7_isValue_49 ?_
          exact z_zret2 C hQ rfl (by first | exact Or.inl rfl | exact Or.inr rfl | exact b2i_c | omega) dX7_isValue_50 ⟨zr (by unfold isVal; first | (apply b2i_iff; omega) | exact (b2i_t (by have := b2i_1.mp h42; omega)).symm | exact (b2i_f (by have := b2i_0.mp h42; omega)).symm | exact (b2i_f (by omega)).symm), rfl, rfl, rfl, rfl, rfl⟩
        · refine z_iconst C dX7_isValue_45 ?_
          refine z_goto C (tgt := 50) dX7_isValue_46 (by decide) ?_
          exact z_zret2 C hQ rfl (by first | exact Or.inl rfl | exact Or.inr rfl | exact b2i_c | omega) dX7_isValue_50 ⟨zr (by unfold isVal; first | (apply b2i_iff; omega) | exact (b2i_t (by have := b2i_1.mp h42; omega)).symm | exact (b2i_f (by have := b2i_0.mp h42; omega)).symm | exact (b2i_f (by omega)).symm), rfl, rfl, rfl, rfl, rfl⟩
    · refine z_iload_n C dX7_isValue_19 rfl ?_
      refine z_iconst C dX7_isValue_20 ?_
      refine z_bipush C dX7_isValue_21 (by decide) ?_
      refine z_callSd C (mX7_within l G (by omega) (by omega) (by omega)) (va_cwS 3 C.2.2.2.2.1 gv7_39 rfl rfl rfl hs_X7_within ⟨Nat.le_of_ble_eq_true rfl, Nat.le_of_ble_eq_true rfl⟩) rfl rfl (Nat.le_of_ble_eq_true rfl) dX7_isValue_23 ⟨Nat.zero_le _, Nat.zero_le _⟩ ?_
      refine z_goto C (tgt := 50) dX7_isValue_26 (by decide) ?_
      exact z_zret2 C hQ rfl (by first | exact Or.inl rfl | exact Or.inr rfl | exact b2i_c | omega) dX7_isValue_50 ⟨zr (by unfold isVal; first | (apply b2i_iff; omega) | exact (b2i_t (by have := b2i_1.mp h42; omega)).symm | exact (b2i_f (by have := b2i_0.mp h42; omega)).symm | exact (b2i_f (by omega)).symm), rfl, rfl, rfl, rfl, rfl⟩
  · refine z_iload_n C dX7_isValue_4 rfl ?_
    refine z_iconst C dX7_isValue_5 ?_
    refine z_bipush C dX7_isValue_6 (by decide) ?_
    refine z_callSd C (mX7_within l G (by omega) (by omega) (by omega)) (va_cwS 3 C.2.2.2.2.1 gv7_39 rfl rfl rfl hs_X7_within ⟨Nat.le_of_ble_eq_true rfl, Nat.le_of_ble_eq_true rfl⟩) rfl rfl (Nat.le_of_ble_eq_true rfl) dX7_isValue_8 ⟨Nat.zero_le _, Nat.zero_le _⟩ ?_
    refine z_goto C (tgt := 50) dX7_isValue_11 (by decide) ?_
    exact z_zret2 C hQ rfl (by first | exact Or.inl rfl | exact Or.inr rfl | exact b2i_c | omega) dX7_isValue_50 ⟨zr (by unfold isVal; first | (apply b2i_iff; omega) | exact (b2i_t (by have := b2i_1.mp h42; omega)).symm | exact (b2i_f (by have := b2i_0.mp h42; omega)).symm | exact (b2i_f (by omega)).symm), rfl, rfl, rfl, rfl, rfl⟩

set_option maxHeartbeats 4000000 in
set_option maxRecDepth 100000 in
theorem mX7_sets (l : Launch) (G : GG) {z : Nat} {K N : Nat → Nat} {I : MI} {R : MR} {o : Nat} (hM : ShM G z K N R o) (hO : Ok (I (o + 1))) {sg : Nat} {v : Int} (hv : isVal sg v) : Cod l G yX7_sets (Cond.code yX7_sets cX7_sets 4 (some .int) :: wsL_law) ⟨6, 0, 0, 128⟩ [.ref o, .int (zI (sg : Int)), .int (zI v)] z K N I R (some (.int (zI (I (o + 1) sg)))) (va_up I (o + 1) (setsF (I (o + 1)) sg v)) R := by
  refine Con.of (own := RX7) (cc := cX7_sets) (maxL := 4) (ret := (some .int)) (by decide +kernel) rfl rfl (Nat.le_of_ble_eq_true rfl) (by decide) rfl ?_
  intro p e9 s mt args below meth c Q hin hQ C
  obtain ⟨ho, ⟨r0, r1, r3, r4, r5, r7, r8⟩, ⟨k1, k2, k3, k4, k5, k6, k7⟩, n1, n2, n3, n4, n5, n6, n7⟩ := id hM
  have hs2 : (sg : Int) ≤ 2 := by unfold isVal at hv; omega
  refine z_aload_n C dX7_sets_0 rfl ?_
  refine z_gR C (ci := 7) (k := 0) rfl (by decide) rfl (by decide) wl_7 wq_4_3 (by decide) dX7_sets_1 (by assumption) (by assumption) ?_
  refine z_iload_n C dX7_sets_4 rfl ?_
  refine z_ialdk C (sg) dX7_sets_5 (by assumption) (by first | rfl | omega) (by omega) (by omega) ?_
  refine z_istore_n C dX7_sets_6 (by decide) rfl ?_
  refine z_aload_n C dX7_sets_7 rfl ?_
  refine z_gR C (ci := 7) (k := 0) rfl (by decide) rfl (by decide) wl_7 wq_4_3 (by decide) dX7_sets_8 (by assumption) (by assumption) ?_
  refine z_iload_n C dX7_sets_11 rfl ?_
  refine z_iload_n C dX7_sets_12 rfl ?_
  refine z_iastk C (sg) dX7_sets_13 (by assumption) (by first | rfl | omega) (by omega) (by omega) ?_
  rw [u2_st]
  refine z_iload_n C dX7_sets_14 rfl ?_
  refine z_iconst C dX7_sets_15 ?_
  refine z_icmp_ne C (tgt := 23) dX7_sets_16 (by decide) (by first | omega | exact b2i_r) (by first | omega | exact b2i_r) (fun h16 => ?_) (fun h16 => ?_)
  · refine z_mem (I' := va_up I (o + 1) (setsV (I (o + 1)) sg v)) (by first | (rw [va_up_s, va_up2]; unfold setsV; rw [if_pos (by omega)]; done) | (unfold setsV; rw [if_neg (by omega)])) rfl ?_
    refine z_aload_n C dX7_sets_23 rfl ?_
    refine z_callVd C (ci := 7) rfl (by decide) (by first | assumption | exact hM.1) (mX7_handsGo l G hM (by rw [va_up_s]; exact hO.h_setsV hv)) (cwV 0 C.2.2.2.2.1 gv7_100 rfl rfl rfl hd_X7_handsGo ⟨Nat.le_of_ble_eq_true rfl, Nat.le_of_ble_eq_true rfl⟩) rfl rfl (Nat.le_of_ble_eq_true rfl) dX7_sets_24 ⟨Nat.zero_le _, Nat.zero_le _⟩ ?_
    rw [va_up_s, va_up2]
    refine z_iload_n C dX7_sets_27 rfl ?_
    exact z_iret2 C hQ rfl dX7_sets_28 ⟨rfl, rfl, rfl, rfl, rfl, rfl⟩
  · refine z_aload_n C dX7_sets_19 rfl ?_
    refine z_callVd C (ci := 7) rfl (by decide) (by first | assumption | exact hM.1) (mX7_voidsAll l G hM) (cwV 0 C.2.2.2.2.1 gv7_97 rfl rfl rfl hd_X7_voidsAll ⟨Nat.le_of_ble_eq_true rfl, Nat.le_of_ble_eq_true rfl⟩) rfl rfl (Nat.le_of_ble_eq_true rfl) dX7_sets_20 ⟨Nat.zero_le _, Nat.zero_le _⟩ ?_
    refine z_mem (I' := va_up I (o + 1) (setsV (I (o + 1)) sg v)) (by first | (rw [va_up_s, va_up2]; unfold setsV; rw [if_pos (by omega)]; done) | (unfold setsV; rw [if_neg (by omega)])) rfl ?_
    refine z_aload_n C dX7_sets_23 rfl ?_
    refine z_callVd C (ci := 7) rfl (by decide) (by first | assumption | exact hM.1) (mX7_handsGo l G hM (by rw [va_up_s]; exact hO.h_setsV hv)) (cwV 0 C.2.2.2.2.1 gv7_100 rfl rfl rfl hd_X7_handsGo ⟨Nat.le_of_ble_eq_true rfl, Nat.le_of_ble_eq_true rfl⟩) rfl rfl (Nat.le_of_ble_eq_true rfl) dX7_sets_24 ⟨Nat.zero_le _, Nat.zero_le _⟩ ?_
    rw [va_up_s, va_up2]
    refine z_iload_n C dX7_sets_27 rfl ?_
    exact z_iret2 C hQ rfl dX7_sets_28 ⟨rfl, rfl, rfl, rfl, rfl, rfl⟩

set_option maxHeartbeats 4000000 in
set_option maxRecDepth 100000 in
theorem mX7_set (l : Launch) (G : GG) {z : Nat} {K N : Nat → Nat} {I : MI} {R : MR} {o : Nat} (hM : ShM G z K N R o) (hO : Ok (I (o + 1))) (hR : 0 ≤ I o 2 ∧ I o 2 ≤ 6) {sg v : Int} (hsg : -2147483648 ≤ sg ∧ sg < 2147483648) (hv : -2147483648 ≤ v ∧ v < 2147483648) : Cod l G yX7_set (Cond.code yX7_set cX7_set 3 (some .int) :: wsL_law) ⟨7, 0, 0, 151⟩ [.ref o, .int (zI sg), .int (zI v)] z K N I R (some (.int (zI (if isVal sg v then I (o + 1) sg.toNat else -2)))) (if isVal sg v then va_up (recM I o) (o + 1) (setsF (I (o + 1)) sg.toNat v) else I) R := by
  refine Con.of (own := RX7) (cc := cX7_set) (maxL := 3) (ret := (some .int)) (by decide +kernel) rfl rfl (Nat.le_of_ble_eq_true rfl) (by decide) rfl ?_
  intro p e9 s mt args below meth c Q hin hQ C
  refine z_iload_n C dX7_set_0 rfl ?_
  refine z_iload_n C dX7_set_1 rfl ?_
  refine z_callSd C (mX7_isValue l G hsg hv) (va_cwS 2 C.2.2.2.2.1 gv7_103 rfl rfl rfl hs_X7_isValue ⟨Nat.le_of_ble_eq_true rfl, Nat.le_of_ble_eq_true rfl⟩) rfl rfl (Nat.le_of_ble_eq_true rfl) dX7_set_2 ⟨Nat.zero_le _, Nat.zero_le _⟩ ?_
  refine z_if_ne C (tgt := 11) dX7_set_5 (by decide) (by first | omega | exact b2i_r) (fun h5 => ?_) (fun h5 => ?_)
  · have hb := b2i_1.mp h5
    obtain ⟨n9, rfl⟩ := Int.eq_ofNat_of_zero_le (show 0 ≤ sg by unfold isVal at hb; omega)
    refine z_aload_n C dX7_set_11 rfl ?_
    refine z_callVd C (ci := 7) rfl (by decide) (by first | assumption | exact hM.1) (mX7_record l G hM hR) (cwV 0 C.2.2.2.2.1 gv7_107 rfl rfl rfl hd_X7_record ⟨Nat.le_of_ble_eq_true rfl, Nat.le_of_ble_eq_true rfl⟩) rfl rfl (Nat.le_of_ble_eq_true rfl) dX7_set_12 ⟨Nat.zero_le _, Nat.zero_le _⟩ ?_
    refine z_aload_n C dX7_set_15 rfl ?_
    refine z_iload_n C dX7_set_16 rfl ?_
    refine z_iload_n C dX7_set_17 rfl ?_
    refine z_callVd C (ci := 7) rfl (by decide) (by first | assumption | exact hM.1) (mX7_sets l G hM (by rw [recM_1]; exact hO) hb) (cwV 2 C.2.2.2.2.1 gv7_110 rfl rfl rfl hd_X7_sets ⟨Nat.le_of_ble_eq_true rfl, Nat.le_of_ble_eq_true rfl⟩) rfl rfl (Nat.le_of_ble_eq_true rfl) dX7_set_18 ⟨Nat.zero_le _, Nat.zero_le _⟩ ?_
    rw [recM_1]
    exact z_iret2 C hQ rfl dX7_set_21 ⟨zr (by first | (rw [if_pos hb]; rfl) | rw [if_neg (b2i_0.mp h5)]), rfl, rfl, rfl, by first | (rw [if_pos hb]; rfl) | rw [if_neg (b2i_0.mp h5)], rfl⟩
  · refine z_bipush C dX7_set_8 (by decide) ?_
    exact z_iret2 C hQ rfl dX7_set_10 ⟨zr (by first | (rw [if_pos hb]; rfl) | rw [if_neg (b2i_0.mp h5)]), rfl, rfl, rfl, by first | (rw [if_pos hb]; rfl) | rw [if_neg (b2i_0.mp h5)], rfl⟩

set_option maxHeartbeats 4000000 in
set_option maxRecDepth 100000 in
theorem mX7_whyNoRing (l : Launch) (G : GG) {z : Nat} {K N : Nat → Nat} {I : MI} {R : MR} {o : Nat} (hM : ShM G z K N R o) (hO : Ok (I (o + 1))) {v : Int} (hv : -2147483648 ≤ v ∧ v < 2147483648) : Cod l G yX7_whyNoRing (Cond.code yX7_whyNoRing cX7_whyNoRing 2 (some .int) :: wsL_law) ⟨1, 0, 0, 22⟩ [.ref o, .int (zI v)] z K N I R (some (.int (zI (if 1 ≤ v ∧ v ≤ 9999 then (if I (o + 1) 3 = 14 then -4 else 0) else -2)))) I R := by
  refine Con.of (own := RX7) (cc := cX7_whyNoRing) (maxL := 2) (ret := (some .int)) (by decide +kernel) rfl rfl (Nat.le_of_ble_eq_true rfl) (by decide) rfl ?_
  intro p e9 s mt args below meth c Q hin hQ C
  obtain ⟨ho, ⟨r0, r1, r3, r4, r5, r7, r8⟩, ⟨k1, k2, k3, k4, k5, k6, k7⟩, n1, n2, n3, n4, n5, n6, n7⟩ := id hM
  have h3 := hO.2.2.2.1
  refine z_iload_n C dX7_whyNoRing_0 rfl ?_
  refine z_iconst C dX7_whyNoRing_1 ?_
  refine z_sipush C dX7_whyNoRing_2 (by decide) ?_
  refine z_callSd C (mX7_within l G (by omega) (by omega) (by omega)) (va_cwS 3 C.2.2.2.2.1 gv7_39 rfl rfl rfl hs_X7_within ⟨Nat.le_of_ble_eq_true rfl, Nat.le_of_ble_eq_true rfl⟩) rfl rfl (Nat.le_of_ble_eq_true rfl) dX7_whyNoRing_5 ⟨Nat.zero_le _, Nat.zero_le _⟩ ?_
  refine z_if_ne C (tgt := 16) dX7_whyNoRing_8 (by decide) (by first | omega | exact b2i_r) (fun h8 => ?_) (fun h8 => ?_)
  · have hb := b2i_1.mp h8
    refine z_aload_n C dX7_whyNoRing_16 rfl ?_
    refine z_gR C (ci := 7) (k := 0) rfl (by decide) rfl (by decide) wl_7 wq_4_3 (by decide) dX7_whyNoRing_17 (by assumption) (by assumption) ?_
    refine z_iconst C dX7_whyNoRing_20 ?_
    refine z_ialdk C (3) dX7_whyNoRing_21 (by assumption) (by first | rfl | omega) (by omega) (by omega) ?_
    refine z_bipush C dX7_whyNoRing_22 (by decide) ?_
    refine z_icmp_ne C (tgt := 32) dX7_whyNoRing_24 (by decide) (by first | omega | exact b2i_r) (by first | omega | exact b2i_r) (fun h24 => ?_) (fun h24 => ?_)
    · refine z_iconst C dX7_whyNoRing_32 ?_
      exact z_iret2 C hQ rfl dX7_whyNoRing_33 ⟨zr (by (repeat' split) <;> omega), rfl, rfl, rfl, rfl, rfl⟩
    · refine z_bipush C dX7_whyNoRing_27 (by decide) ?_
      refine z_goto C (tgt := 33) dX7_whyNoRing_29 (by decide) ?_
      exact z_iret2 C hQ rfl dX7_whyNoRing_33 ⟨zr (by (repeat' split) <;> omega), rfl, rfl, rfl, rfl, rfl⟩
  · have hb := b2i_0.mp h8
    refine z_bipush C dX7_whyNoRing_11 (by decide) ?_
    refine z_goto C (tgt := 33) dX7_whyNoRing_13 (by decide) ?_
    exact z_iret2 C hQ rfl dX7_whyNoRing_33 ⟨zr (by (repeat' split) <;> omega), rfl, rfl, rfl, rfl, rfl⟩

set_option maxHeartbeats 4000000 in
set_option maxRecDepth 100000 in
theorem mX7_comes (l : Launch) (G : GG) {z : Nat} {K N : Nat → Nat} {I : MI} {R : MR} {o : Nat} (hM : ShM G z K N R o) (hO : Ok (I (o + 1))) (h14 : I (o + 1) 3 < 14) {v : Int} : Cod l G yX7_comes (Cond.code yX7_comes cX7_comes 2 (some .int) :: wsL_law) ⟨3, 0, 0, 66⟩ [.ref o, .int (zI v)] z K N I R (some (.int (zI (I (o + 1) 3)))) (va_up I (o + 1) (comesF (I (o + 1)) v)) R := by
  refine Con.of (own := RX7) (cc := cX7_comes) (maxL := 2) (ret := (some .int)) (by decide +kernel) rfl rfl (Nat.le_of_ble_eq_true rfl) (by decide) rfl ?_
  intro p e9 s mt args below meth c Q hin hQ C
  obtain ⟨ho, ⟨r0, r1, r3, r4, r5, r7, r8⟩, ⟨k1, k2, k3, k4, k5, k6, k7⟩, n1, n2, n3, n4, n5, n6, n7⟩ := id hM
  have h3 := hO.2.2.2.1
  refine z_aload_n C dX7_comes_0 rfl ?_
  refine z_gR C (ci := 7) (k := 0) rfl (by decide) rfl (by decide) wl_7 wq_4_3 (by decide) dX7_comes_1 (by assumption) (by assumption) ?_
  refine z_bipush C dX7_comes_4 (by decide) ?_
  refine z_aload_n C dX7_comes_6 rfl ?_
  refine z_gR C (ci := 7) (k := 0) rfl (by decide) rfl (by decide) wl_7 wq_4_3 (by decide) dX7_comes_7 (by assumption) (by assumption) ?_
  refine z_iconst C dX7_comes_10 ?_
  refine z_ialdk C (3) dX7_comes_11 (by assumption) (by first | rfl | omega) (by omega) (by omega) ?_
  refine z_iadd C dX7_comes_12 ?_
  refine z_iload_n C dX7_comes_13 rfl ?_
  refine z_iastk C (6 + (I (o + 1) 3).toNat) dX7_comes_14 (by assumption) (by first | rfl | omega) (by omega) (by omega) ?_
  rw [u2_st]
  refine z_aload_n C dX7_comes_15 rfl ?_
  refine z_gR C (ci := 7) (k := 0) rfl (by decide) rfl (by decide) wl_7 wq_4_3 (by decide) dX7_comes_16 (by assumption) (by assumption) ?_
  refine z_iconst C dX7_comes_19 ?_
  refine z_dup2 C dX7_comes_20 rfl rfl ?_
  refine z_ialdk C (3) dX7_comes_21 (by assumption) (by first | rfl | omega) (by omega) (by omega) ?_
  rw [va_up_s, st1_n (by omega)]
  refine z_iconst C dX7_comes_22 ?_
  refine z_iadd C dX7_comes_23 ?_
  refine z_iastk C (3) dX7_comes_24 (by assumption) (by first | rfl | omega) (by omega) (by omega) ?_
  rw [u2_vst]
  refine z_aload_n C dX7_comes_25 rfl ?_
  refine z_callVd C (ci := 7) rfl (by decide) (by first | assumption | exact hM.1) (mX7_voidsAll l G hM) (cwV 0 C.2.2.2.2.1 gv7_97 rfl rfl rfl hd_X7_voidsAll ⟨Nat.le_of_ble_eq_true rfl, Nat.le_of_ble_eq_true rfl⟩) rfl rfl (Nat.le_of_ble_eq_true rfl) dX7_comes_26 ⟨Nat.zero_le _, Nat.zero_le _⟩ ?_
  rw [va_up_s, va_up2]
  refine z_aload_n C dX7_comes_29 rfl ?_
  refine z_gR C (ci := 7) (k := 0) rfl (by decide) rfl (by decide) wl_7 wq_4_3 (by decide) dX7_comes_30 (by assumption) (by assumption) ?_
  refine z_iconst C dX7_comes_33 ?_
  refine z_ialdk C (3) dX7_comes_34 (by assumption) (by first | rfl | omega) (by omega) (by omega) ?_
  rw [va_up_s, voidsF_lo (by omega), st1_s]
  refine z_iconst C dX7_comes_35 ?_
  refine z_isub C dX7_comes_36 ?_
  exact z_iret2 C hQ rfl dX7_comes_37 ⟨zr (by omega), rfl, rfl, rfl, rfl, rfl⟩

set_option maxHeartbeats 4000000 in
set_option maxRecDepth 100000 in
theorem mX7_ring (l : Launch) (G : GG) {z : Nat} {K N : Nat → Nat} {I : MI} {R : MR} {o : Nat} (hM : ShM G z K N R o) (hO : Ok (I (o + 1))) (hR : 0 ≤ I o 2 ∧ I o 2 ≤ 6) {v : Int} (hv : -2147483648 ≤ v ∧ v < 2147483648) : Cod l G yX7_ring (Cond.code yX7_ring cX7_ring 3 (some .int) :: wsL_law) ⟨4, 0, 0, 87⟩ [.ref o, .int (zI v)] z K N I R (some (.int (zI (if 1 ≤ v ∧ v ≤ 9999 then (if I (o + 1) 3 = 14 then -4 else I (o + 1) 3) else -2)))) (if (1 ≤ v ∧ v ≤ 9999) ∧ ¬ I (o + 1) 3 = 14 then va_up (recM I o) (o + 1) (comesF (I (o + 1)) v) else I) R := by
  refine Con.of (own := RX7) (cc := cX7_ring) (maxL := 3) (ret := (some .int)) (by decide +kernel) rfl rfl (Nat.le_of_ble_eq_true rfl) (by decide) rfl ?_
  intro p e9 s mt args below meth c Q hin hQ C
  have h3 := hO.2.2.2.1
  refine z_aload_n C dX7_ring_0 rfl ?_
  refine z_iload_n C dX7_ring_1 rfl ?_
  refine z_callVd C (ci := 7) rfl (by decide) (by first | assumption | exact hM.1) (mX7_whyNoRing l G hM hO hv) (cwV 1 C.2.2.2.2.1 gv7_113 rfl rfl rfl hd_X7_whyNoRing ⟨Nat.le_of_ble_eq_true rfl, Nat.le_of_ble_eq_true rfl⟩) rfl rfl (Nat.le_of_ble_eq_true rfl) dX7_ring_2 ⟨Nat.zero_le _, Nat.zero_le _⟩ ?_
  obtain ⟨w, hw, hw2⟩ : ∃ w : Int, w = (if 1 ≤ v ∧ v ≤ 9999 then (if I (o + 1) 3 = 14 then -4 else 0) else -2) ∧ ((w = -2 ∧ ¬ (1 ≤ v ∧ v ≤ 9999)) ∨ (w = -4 ∧ (1 ≤ v ∧ v ≤ 9999) ∧ I (o + 1) 3 = 14) ∨ (w = 0 ∧ (1 ≤ v ∧ v ≤ 9999) ∧ ¬ I (o + 1) 3 = 14)) := ⟨_, rfl, (by (repeat' split) <;> omega)⟩
  rw [← hw]
  refine z_istore_n C dX7_ring_5 (by decide) rfl ?_
  refine z_iload_n C dX7_ring_6 rfl ?_
  refine z_if_ge C (tgt := 12) dX7_ring_7 (by decide) (by first | omega | exact b2i_r) (fun h7 => ?_) (fun h7 => ?_)
  · refine z_aload_n C dX7_ring_12 rfl ?_
    refine z_callVd C (ci := 7) rfl (by decide) (by first | assumption | exact hM.1) (mX7_record l G hM hR) (cwV 0 C.2.2.2.2.1 gv7_107 rfl rfl rfl hd_X7_record ⟨Nat.le_of_ble_eq_true rfl, Nat.le_of_ble_eq_true rfl⟩) rfl rfl (Nat.le_of_ble_eq_true rfl) dX7_ring_13 ⟨Nat.zero_le _, Nat.zero_le _⟩ ?_
    refine z_aload_n C dX7_ring_16 rfl ?_
    refine z_iload_n C dX7_ring_17 rfl ?_
    refine z_callVd C (ci := 7) rfl (by decide) (by first | assumption | exact hM.1) (mX7_comes l G hM (by rw [recM_1]; exact hO) (by rw [recM_1]; omega)) (cwV 1 C.2.2.2.2.1 gv7_116 rfl rfl rfl hd_X7_comes ⟨Nat.le_of_ble_eq_true rfl, Nat.le_of_ble_eq_true rfl⟩) rfl rfl (Nat.le_of_ble_eq_true rfl) dX7_ring_18 ⟨Nat.zero_le _, Nat.zero_le _⟩ ?_
    rw [recM_1]
    exact z_iret2 C hQ rfl dX7_ring_21 ⟨zr (by (repeat' split) <;> omega), rfl, rfl, rfl, by first | rw [if_pos (by omega)] | rw [if_neg (by omega)], rfl⟩
  · refine z_iload_n C dX7_ring_10 rfl ?_
    exact z_iret2 C hQ rfl dX7_ring_11 ⟨zr (by (repeat' split) <;> omega), rfl, rfl, rfl, by first | rw [if_pos (by omega)] | rw [if_neg (by omega)], rfl⟩

set_option maxHeartbeats 4000000 in
set_option maxRecDepth 100000 in
theorem mX7_lose (l : Launch) (G : GG) {z : Nat} {K N : Nat → Nat} {I : MI} {R : MR} {o : Nat} (hM : ShM G z K N R o) (hO : Ok (I (o + 1))) (hR : 0 ≤ I o 2 ∧ I o 2 ≤ 6) : Cod l G yX7_lose (Cond.code yX7_lose cX7_lose 3 (some .int) :: wsL_law) ⟨6, 0, 0, 128⟩ [.ref o] z K N I R (some (.int (zI (if I (o + 1) 3 = 0 then -5 else I (o + 1) (6 + (I (o + 1) 3 - 1).toNat))))) (if I (o + 1) 3 = 0 then I else va_up (recM I o) (o + 1) (loseF (I (o + 1)))) R := by
  refine Con.of (own := RX7) (cc := cX7_lose) (maxL := 3) (ret := (some .int)) (by decide +kernel) rfl rfl (Nat.le_of_ble_eq_true rfl) (by decide) rfl ?_
  intro p e9 s mt args below meth c Q hin hQ C
  obtain ⟨ho, ⟨r0, r1, r3, r4, r5, r7, r8⟩, ⟨k1, k2, k3, k4, k5, k6, k7⟩, n1, n2, n3, n4, n5, n6, n7⟩ := id hM
  have h3 := hO.2.2.2.1
  have h4 := Ok4 hO
  refine z_aload_n C dX7_lose_0 rfl ?_
  refine z_gR C (ci := 7) (k := 0) rfl (by decide) rfl (by decide) wl_7 wq_4_3 (by decide) dX7_lose_1 (by assumption) (by assumption) ?_
  refine z_iconst C dX7_lose_4 ?_
  refine z_ialdk C (3) dX7_lose_5 (by assumption) (by first | rfl | omega) (by omega) (by omega) ?_
  refine z_if_ne C (tgt := 12) dX7_lose_6 (by decide) (by first | omega | exact b2i_r) (fun h6 => ?_) (fun h6 => ?_)
  · refine z_aload_n C dX7_lose_12 rfl ?_
    refine z_callVd C (ci := 7) rfl (by decide) (by first | assumption | exact hM.1) (mX7_record l G hM hR) (cwV 0 C.2.2.2.2.1 gv7_107 rfl rfl rfl hd_X7_record ⟨Nat.le_of_ble_eq_true rfl, Nat.le_of_ble_eq_true rfl⟩) rfl rfl (Nat.le_of_ble_eq_true rfl) dX7_lose_13 ⟨Nat.zero_le _, Nat.zero_le _⟩ ?_
    obtain ⟨J, hJ⟩ : ∃ J : MI, J = recM I o := ⟨_, rfl⟩
    rw [← hJ]
    have jr1 : J (o + 1) = I (o + 1) := by rw [hJ, recM_1]
    refine z_aload_n C dX7_lose_16 rfl ?_
    refine z_gR C (ci := 7) (k := 0) rfl (by decide) rfl (by decide) wl_7 wq_4_3 (by decide) dX7_lose_17 (by assumption) (by assumption) ?_
    refine z_iconst C dX7_lose_20 ?_
    refine z_dup2 C dX7_lose_21 rfl rfl ?_
    refine z_ialdk C (3) dX7_lose_22 (by assumption) (by first | rfl | omega) (by omega) (by omega) ?_
    rw [jr1]
    refine z_iconst C dX7_lose_23 ?_
    refine z_isub C dX7_lose_24 ?_
    refine z_iastk C (3) dX7_lose_25 (by assumption) (by first | rfl | omega) (by omega) (by omega) ?_
    rw [u2_st, jr1]
    refine z_aload_n C dX7_lose_26 rfl ?_
    refine z_gR C (ci := 7) (k := 0) rfl (by decide) rfl (by decide) wl_7 wq_4_3 (by decide) dX7_lose_27 (by assumption) (by assumption) ?_
    refine z_iconst C dX7_lose_30 ?_
    refine z_ialdk C (3) dX7_lose_31 (by assumption) (by first | rfl | omega) (by omega) (by omega) ?_
    rw [va_up_s, st1_s]
    refine z_istore_n C dX7_lose_32 (by decide) rfl ?_
    refine z_aload_n C dX7_lose_33 rfl ?_
    refine z_gR C (ci := 7) (k := 0) rfl (by decide) rfl (by decide) wl_7 wq_4_3 (by decide) dX7_lose_34 (by assumption) (by assumption) ?_
    refine z_bipush C dX7_lose_37 (by decide) ?_
    refine z_iload_n C dX7_lose_39 rfl ?_
    refine z_iadd C dX7_lose_40 ?_
    refine z_ialdk C (6 + (I (o + 1) 3 - 1).toNat) dX7_lose_41 (by assumption) (by first | rfl | omega) (by omega) (by omega) ?_
    rw [va_up_s, st1_n (by omega)]
    refine z_istore_n C dX7_lose_42 (by decide) rfl ?_
    refine z_aload_n C dX7_lose_43 rfl ?_
    refine z_gR C (ci := 7) (k := 0) rfl (by decide) rfl (by decide) wl_7 wq_4_3 (by decide) dX7_lose_44 (by assumption) (by assumption) ?_
    refine z_bipush C dX7_lose_47 (by decide) ?_
    refine z_iload_n C dX7_lose_49 rfl ?_
    refine z_iadd C dX7_lose_50 ?_
    refine z_iconst C dX7_lose_51 ?_
    refine z_iastk C (6 + (I (o + 1) 3 - 1).toNat) dX7_lose_52 (by assumption) (by first | rfl | omega) (by omega) (by omega) ?_
    rw [u2_vst]
    refine z_aload_n C dX7_lose_53 rfl ?_
    refine z_gR C (ci := 7) (k := 0) rfl (by decide) rfl (by decide) wl_7 wq_4_3 (by decide) dX7_lose_54 (by assumption) (by assumption) ?_
    refine z_iconst C dX7_lose_57 ?_
    refine z_dup2 C dX7_lose_58 rfl rfl ?_
    refine z_ialdk C (4) dX7_lose_59 (by assumption) (by first | rfl | omega) (by omega) (by omega) ?_
    rw [va_up_s, st1_n (by omega), st1_n (by omega)]
    refine z_iconst C dX7_lose_60 ?_
    refine z_iload_n C dX7_lose_61 rfl ?_
    refine z_ishl C dX7_lose_62 (zI_shl (by omega)) ?_
    refine z_iconst C dX7_lose_63 ?_
    refine z_ixor C dX7_lose_64 rfl ?_
    refine z_iand C dX7_lose_65 (zI_clrb (by omega) _) ?_
    refine z_iastk C (4) dX7_lose_66 (by assumption) (by first | rfl | omega) (by omega) (by omega) ?_
    rw [u2_vst]
    refine z_aload_n C dX7_lose_67 rfl ?_
    refine z_callVd C (ci := 7) rfl (by decide) (by first | assumption | exact hM.1) (mX7_voidsAll l G hM) (cwV 0 C.2.2.2.2.1 gv7_97 rfl rfl rfl hd_X7_voidsAll ⟨Nat.le_of_ble_eq_true rfl, Nat.le_of_ble_eq_true rfl⟩) rfl rfl (Nat.le_of_ble_eq_true rfl) dX7_lose_68 ⟨Nat.zero_le _, Nat.zero_le _⟩ ?_
    rw [va_up_s, va_up2]
    refine z_aload_n C dX7_lose_71 rfl ?_
    refine z_callVd C (ci := 7) rfl (by decide) (by first | assumption | exact hM.1) (mX7_handsGo l G hM (by rw [va_up_s]; exact hO.h_loseV (by omega))) (cwV 0 C.2.2.2.2.1 gv7_100 rfl rfl rfl hd_X7_handsGo ⟨Nat.le_of_ble_eq_true rfl, Nat.le_of_ble_eq_true rfl⟩) rfl rfl (Nat.le_of_ble_eq_true rfl) dX7_lose_72 ⟨Nat.zero_le _, Nat.zero_le _⟩ ?_
    rw [va_up_s, va_up2]
    refine z_iload_n C dX7_lose_75 rfl ?_
    exact z_iret2 C hQ rfl dX7_lose_76 ⟨zr (by first | rw [if_pos (by omega)] | rw [if_neg (by omega)]), rfl, rfl, rfl, by first | (rw [if_pos (by omega)]; done) | (rw [if_neg (by omega), hJ]; rfl), rfl⟩
  · refine z_bipush C dX7_lose_9 (by decide) ?_
    exact z_iret2 C hQ rfl dX7_lose_11 ⟨zr (by first | rw [if_pos (by omega)] | rw [if_neg (by omega)]), rfl, rfl, rfl, by first | (rw [if_pos (by omega)]; done) | (rw [if_neg (by omega), hJ]; rfl), rfl⟩

set_option maxHeartbeats 4000000 in
set_option maxRecDepth 100000 in
theorem mX7_whyNotMoved (l : Launch) (G : GG) {z : Nat} {K N : Nat → Nat} {I : MI} {R : MR} {o : Nat} (hM : ShM G z K N R o) (hO : Ok (I (o + 1))) {rg tk : Int} (hrg : -2147483648 ≤ rg ∧ rg < 2147483648) (ht : tk = 0 ∨ tk = 1) : Cod l G yX7_whyNotMoved (Cond.code yX7_whyNotMoved cX7_whyNotMoved 3 (some .int) :: wsL_law) ⟨2, 0, 0, 43⟩ [.ref o, .int (zI rg), .int (zI tk)] z K N I R (some (.int (zI (if 0 ≤ rg ∧ rg ≤ I (o + 1) 3 - 1 then (if I (o + 1) 4 / 2 ^ rg.toNat % 2 = tk then 0 else -5) else -1)))) I R := by
  refine Con.of (own := RX7) (cc := cX7_whyNotMoved) (maxL := 3) (ret := (some .int)) (by decide +kernel) rfl rfl (Nat.le_of_ble_eq_true rfl) (by decide) rfl ?_
  intro p e9 s mt args below meth c Q hin hQ C
  have h3 := hO.2.2.2.1
  refine z_aload_n C dX7_whyNotMoved_0 rfl ?_
  refine z_iload_n C dX7_whyNotMoved_1 rfl ?_
  refine z_callVd C (ci := 7) rfl (by decide) (by first | assumption | exact hM.1) (mX7_isRing l G hM hO hrg) (cwV 1 C.2.2.2.2.1 gv7_119 rfl rfl rfl hd_X7_isRing ⟨Nat.le_of_ble_eq_true rfl, Nat.le_of_ble_eq_true rfl⟩) rfl rfl (Nat.le_of_ble_eq_true rfl) dX7_whyNotMoved_2 ⟨Nat.zero_le _, Nat.zero_le _⟩ ?_
  refine z_if_ne C (tgt := 12) dX7_whyNotMoved_5 (by decide) (by first | omega | exact b2i_r) (fun h5 => ?_) (fun h5 => ?_)
  · have hb := b2i_1.mp h5
    refine z_aload_n C dX7_whyNotMoved_12 rfl ?_
    refine z_iload_n C dX7_whyNotMoved_13 rfl ?_
    refine z_callVd C (ci := 7) rfl (by decide) (by first | assumption | exact hM.1) (mX7_isStacked l G hM hO (by omega)) (cwV 1 C.2.2.2.2.1 gv7_123 rfl rfl rfl hd_X7_isStacked ⟨Nat.le_of_ble_eq_true rfl, Nat.le_of_ble_eq_true rfl⟩) rfl rfl (Nat.le_of_ble_eq_true rfl) dX7_whyNotMoved_14 ⟨Nat.zero_le _, Nat.zero_le _⟩ ?_
    refine z_iload_n C dX7_whyNotMoved_17 rfl ?_
    refine z_icmp_ne C (tgt := 25) dX7_whyNotMoved_18 (by decide) (by first | omega | exact b2i_r) (by first | omega | exact b2i_r) (fun h18 => ?_) (fun h18 => ?_)
    · refine z_bipush C dX7_whyNotMoved_25 (by decide) ?_
      exact z_iret2 C hQ rfl dX7_whyNotMoved_27 ⟨zr (by (repeat' split) <;> omega), rfl, rfl, rfl, rfl, rfl⟩
    · refine z_iconst C dX7_whyNotMoved_21 ?_
      refine z_goto C (tgt := 27) dX7_whyNotMoved_22 (by decide) ?_
      exact z_iret2 C hQ rfl dX7_whyNotMoved_27 ⟨zr (by (repeat' split) <;> omega), rfl, rfl, rfl, rfl, rfl⟩
  · have hb := b2i_0.mp h5
    refine z_iconst C dX7_whyNotMoved_8 ?_
    refine z_goto C (tgt := 27) dX7_whyNotMoved_9 (by decide) ?_
    exact z_iret2 C hQ rfl dX7_whyNotMoved_27 ⟨zr (by (repeat' split) <;> omega), rfl, rfl, rfl, rfl, rfl⟩

set_option maxHeartbeats 4000000 in
set_option maxRecDepth 100000 in
theorem mX7_isMoved (l : Launch) (G : GG) {z : Nat} {K N : Nat → Nat} {I : MI} {R : MR} {o : Nat} (hM : ShM G z K N R o) (hO : Ok (I (o + 1))) {rg : Nat} (hr : (rg : Int) < I (o + 1) 3) : Cod l G yX7_isMoved (Cond.code yX7_isMoved cX7_isMoved 2 (some .int) :: wsL_law) ⟨6, 0, 0, 128⟩ [.ref o, .int (zI (rg : Int))] z K N I R (some (.int (zI (prsA (moveF (I (o + 1)) rg) (moveF (I (o + 1)) rg 4))))) (va_up I (o + 1) (moveF (I (o + 1)) rg)) R := by
  refine Con.of (own := RX7) (cc := cX7_isMoved) (maxL := 2) (ret := (some .int)) (by decide +kernel) rfl rfl (Nat.le_of_ble_eq_true rfl) (by decide) rfl ?_
  intro p e9 s mt args below meth c Q hin hQ C
  obtain ⟨ho, ⟨r0, r1, r3, r4, r5, r7, r8⟩, ⟨k1, k2, k3, k4, k5, k6, k7⟩, n1, n2, n3, n4, n5, n6, n7⟩ := id hM
  have h3 := hO.2.2.2.1
  have h4 := Ok4 hO
  have hO2 : Ok (moveF (I (o + 1)) rg) := (hO.h_movV hr).h_handsF
  have h42 := Ok4 hO2
  refine z_aload_n C dX7_isMoved_0 rfl ?_
  refine z_gR C (ci := 7) (k := 0) rfl (by decide) rfl (by decide) wl_7 wq_4_3 (by decide) dX7_isMoved_1 (by assumption) (by assumption) ?_
  refine z_iconst C dX7_isMoved_4 ?_
  refine z_dup2 C dX7_isMoved_5 rfl rfl ?_
  refine z_ialdk C (4) dX7_isMoved_6 (by assumption) (by first | rfl | omega) (by omega) (by omega) ?_
  refine z_iconst C dX7_isMoved_7 ?_
  refine z_iload_n C dX7_isMoved_8 rfl ?_
  refine z_ishl C dX7_isMoved_9 (zI_shl (by omega)) ?_
  refine z_ixor C dX7_isMoved_10 (zI_xorb (by omega) _) ?_
  refine z_iastk C (4) dX7_isMoved_11 (by assumption) (by first | rfl | omega) (by omega) (by omega) ?_
  rw [u2_st]
  refine z_aload_n C dX7_isMoved_12 rfl ?_
  refine z_callVd C (ci := 7) rfl (by decide) (by first | assumption | exact hM.1) (mX7_handsGo l G hM (by rw [va_up_s]; exact hO.h_movV hr)) (cwV 0 C.2.2.2.2.1 gv7_100 rfl rfl rfl hd_X7_handsGo ⟨Nat.le_of_ble_eq_true rfl, Nat.le_of_ble_eq_true rfl⟩) rfl rfl (Nat.le_of_ble_eq_true rfl) dX7_isMoved_13 ⟨Nat.zero_le _, Nat.zero_le _⟩ ?_
  rw [va_up_s, va_up2]
  refine z_aload_n C dX7_isMoved_16 rfl ?_
  refine z_aload_n C dX7_isMoved_17 rfl ?_
  refine z_gR C (ci := 7) (k := 0) rfl (by decide) rfl (by decide) wl_7 wq_4_3 (by decide) dX7_isMoved_18 (by assumption) (by assumption) ?_
  refine z_iconst C dX7_isMoved_21 ?_
  refine z_ialdk C (4) dX7_isMoved_22 (by assumption) (by first | rfl | omega) (by omega) (by omega) ?_
  rw [va_up_s]
  refine z_callVd C (ci := 7) rfl (by decide) (by first | assumption | exact hM.1) (mX7_pressureOf l G hM (by rw [va_up_s]; exact hO2) ⟨h42.1, Int.lt_trans h42.2 (by decide)⟩) (cwV 1 C.2.2.2.2.1 gv7_67 rfl rfl rfl hd_X7_pressureOf ⟨Nat.le_of_ble_eq_true rfl, Nat.le_of_ble_eq_true rfl⟩) rfl rfl (Nat.le_of_ble_eq_true rfl) dX7_isMoved_23 ⟨Nat.zero_le _, Nat.zero_le _⟩ ?_
  rw [va_up_s]
  exact z_iret2 C hQ rfl dX7_isMoved_26 ⟨rfl, rfl, rfl, rfl, rfl, rfl⟩

set_option maxHeartbeats 4000000 in
set_option maxRecDepth 100000 in
theorem mX7_stack (l : Launch) (G : GG) {z : Nat} {K N : Nat → Nat} {I : MI} {R : MR} {o : Nat} (hM : ShM G z K N R o) (hO : Ok (I (o + 1))) (hR : 0 ≤ I o 2 ∧ I o 2 ≤ 6) {rg : Int} (hrg : -2147483648 ≤ rg ∧ rg < 2147483648) : Cod l G yX7_stack (Cond.code yX7_stack cX7_stack 3 (some .int) :: wsL_law) ⟨7, 0, 0, 149⟩ [.ref o, .int (zI rg)] z K N I R (some (.int (zI (if 0 ≤ rg ∧ rg ≤ I (o + 1) 3 - 1 then (if I (o + 1) 4 / 2 ^ rg.toNat % 2 = 0 then prsA (moveF (I (o + 1)) rg.toNat) (moveF (I (o + 1)) rg.toNat 4) else -5) else -1)))) (if (0 ≤ rg ∧ rg ≤ I (o + 1) 3 - 1) ∧ I (o + 1) 4 / 2 ^ rg.toNat % 2 = 0 then va_up (recM I o) (o + 1) (moveF (I (o + 1)) rg.toNat) else I) R := by
  refine Con.of (own := RX7) (cc := cX7_stack) (maxL := 3) (ret := (some .int)) (by decide +kernel) rfl rfl (Nat.le_of_ble_eq_true rfl) (by decide) rfl ?_
  intro p e9 s mt args below meth c Q hin hQ C
  have h3 := hO.2.2.2.1
  refine z_aload_n C dX7_stack_0 rfl ?_
  refine z_iload_n C dX7_stack_1 rfl ?_
  refine z_iconst C dX7_stack_2 ?_
  refine z_callVd C (ci := 7) rfl (by decide) (by first | assumption | exact hM.1) (mX7_whyNotMoved l G hM hO hrg (by omega)) (cwV 2 C.2.2.2.2.1 gv7_126 rfl rfl rfl hd_X7_whyNotMoved ⟨Nat.le_of_ble_eq_true rfl, Nat.le_of_ble_eq_true rfl⟩) rfl rfl (Nat.le_of_ble_eq_true rfl) dX7_stack_3 ⟨Nat.zero_le _, Nat.zero_le _⟩ ?_
  obtain ⟨w, hw, hw2⟩ : ∃ w : Int, w = (if 0 ≤ rg ∧ rg ≤ I (o + 1) 3 - 1 then (if I (o + 1) 4 / 2 ^ rg.toNat % 2 = 0 then 0 else -5) else -1) ∧ ((w = -1 ∧ ¬ (0 ≤ rg ∧ rg ≤ I (o + 1) 3 - 1)) ∨ (w = -5 ∧ (0 ≤ rg ∧ rg ≤ I (o + 1) 3 - 1) ∧ ¬ I (o + 1) 4 / 2 ^ rg.toNat % 2 = 0) ∨ (w = 0 ∧ (0 ≤ rg ∧ rg ≤ I (o + 1) 3 - 1) ∧ I (o + 1) 4 / 2 ^ rg.toNat % 2 = 0)) := ⟨_, rfl, (by (repeat' split) <;> omega)⟩
  rw [← hw]
  refine z_istore_n C dX7_stack_6 (by decide) rfl ?_
  refine z_iload_n C dX7_stack_7 rfl ?_
  refine z_if_ge C (tgt := 13) dX7_stack_8 (by decide) (by first | omega | exact b2i_r) (fun h8 => ?_) (fun h8 => ?_)
  · have hb : (0 ≤ rg ∧ rg ≤ I (o + 1) 3 - 1) ∧ I (o + 1) 4 / 2 ^ rg.toNat % 2 = 0 := by omega
    obtain ⟨n9, rfl⟩ := Int.eq_ofNat_of_zero_le (show 0 ≤ rg by omega)
    refine z_aload_n C dX7_stack_13 rfl ?_
    refine z_callVd C (ci := 7) rfl (by decide) (by first | assumption | exact hM.1) (mX7_record l G hM hR) (cwV 0 C.2.2.2.2.1 gv7_107 rfl rfl rfl hd_X7_record ⟨Nat.le_of_ble_eq_true rfl, Nat.le_of_ble_eq_true rfl⟩) rfl rfl (Nat.le_of_ble_eq_true rfl) dX7_stack_14 ⟨Nat.zero_le _, Nat.zero_le _⟩ ?_
    refine z_aload_n C dX7_stack_17 rfl ?_
    refine z_iload_n C dX7_stack_18 rfl ?_
    refine z_callVd C (ci := 7) rfl (by decide) (by first | assumption | exact hM.1) (mX7_isMoved l G hM (by rw [recM_1]; exact hO) (by rw [recM_1]; omega)) (cwV 1 C.2.2.2.2.1 gv7_130 rfl rfl rfl hd_X7_isMoved ⟨Nat.le_of_ble_eq_true rfl, Nat.le_of_ble_eq_true rfl⟩) rfl rfl (Nat.le_of_ble_eq_true rfl) dX7_stack_19 ⟨Nat.zero_le _, Nat.zero_le _⟩ ?_
    rw [recM_1]
    exact z_iret2 C hQ rfl dX7_stack_22 ⟨zr (by first | (rw [if_pos hb.1, if_pos hb.2]; rfl) | ((repeat' split) <;> omega)), rfl, rfl, rfl, by first | (rw [if_pos hb]; rfl) | rw [if_neg (by omega)], rfl⟩
  · refine z_iload_n C dX7_stack_11 rfl ?_
    exact z_iret2 C hQ rfl dX7_stack_12 ⟨zr (by first | (rw [if_pos hb.1, if_pos hb.2]; rfl) | ((repeat' split) <;> omega)), rfl, rfl, rfl, by first | (rw [if_pos hb]; rfl) | rw [if_neg (by omega)], rfl⟩

set_option maxHeartbeats 4000000 in
set_option maxRecDepth 100000 in
theorem mX7_take (l : Launch) (G : GG) {z : Nat} {K N : Nat → Nat} {I : MI} {R : MR} {o : Nat} (hM : ShM G z K N R o) (hO : Ok (I (o + 1))) (hR : 0 ≤ I o 2 ∧ I o 2 ≤ 6) {rg : Int} (hrg : -2147483648 ≤ rg ∧ rg < 2147483648) : Cod l G yX7_take (Cond.code yX7_take cX7_take 3 (some .int) :: wsL_law) ⟨7, 0, 0, 149⟩ [.ref o, .int (zI rg)] z K N I R (some (.int (zI (if 0 ≤ rg ∧ rg ≤ I (o + 1) 3 - 1 then (if I (o + 1) 4 / 2 ^ rg.toNat % 2 = 1 then prsA (moveF (I (o + 1)) rg.toNat) (moveF (I (o + 1)) rg.toNat 4) else -5) else -1)))) (if (0 ≤ rg ∧ rg ≤ I (o + 1) 3 - 1) ∧ I (o + 1) 4 / 2 ^ rg.toNat % 2 = 1 then va_up (recM I o) (o + 1) (moveF (I (o + 1)) rg.toNat) else I) R := by
  refine Con.of (own := RX7) (cc := cX7_take) (maxL := 3) (ret := (some .int)) (by decide +kernel) rfl rfl (Nat.le_of_ble_eq_true rfl) (by decide) rfl ?_
  intro p e9 s mt args below meth c Q hin hQ C
  have h3 := hO.2.2.2.1
  refine z_aload_n C dX7_take_0 rfl ?_
  refine z_iload_n C dX7_take_1 rfl ?_
  refine z_iconst C dX7_take_2 ?_
  refine z_callVd C (ci := 7) rfl (by decide) (by first | assumption | exact hM.1) (mX7_whyNotMoved l G hM hO hrg (by omega)) (cwV 2 C.2.2.2.2.1 gv7_126 rfl rfl rfl hd_X7_whyNotMoved ⟨Nat.le_of_ble_eq_true rfl, Nat.le_of_ble_eq_true rfl⟩) rfl rfl (Nat.le_of_ble_eq_true rfl) dX7_take_3 ⟨Nat.zero_le _, Nat.zero_le _⟩ ?_
  obtain ⟨w, hw, hw2⟩ : ∃ w : Int, w = (if 0 ≤ rg ∧ rg ≤ I (o + 1) 3 - 1 then (if I (o + 1) 4 / 2 ^ rg.toNat % 2 = 1 then 0 else -5) else -1) ∧ ((w = -1 ∧ ¬ (0 ≤ rg ∧ rg ≤ I (o + 1) 3 - 1)) ∨ (w = -5 ∧ (0 ≤ rg ∧ rg ≤ I (o + 1) 3 - 1) ∧ ¬ I (o + 1) 4 / 2 ^ rg.toNat % 2 = 1) ∨ (w = 0 ∧ (0 ≤ rg ∧ rg ≤ I (o + 1) 3 - 1) ∧ I (o + 1) 4 / 2 ^ rg.toNat % 2 = 1)) := ⟨_, rfl, (by (repeat' split) <;> omega)⟩
  rw [← hw]
  refine z_istore_n C dX7_take_6 (by decide) rfl ?_
  refine z_iload_n C dX7_take_7 rfl ?_
  refine z_if_ge C (tgt := 13) dX7_take_8 (by decide) (by first | omega | exact b2i_r) (fun h8 => ?_) (fun h8 => ?_)
  · have hb : (0 ≤ rg ∧ rg ≤ I (o + 1) 3 - 1) ∧ I (o + 1) 4 / 2 ^ rg.toNat % 2 = 1 := by omega
    obtain ⟨n9, rfl⟩ := Int.eq_ofNat_of_zero_le (show 0 ≤ rg by omega)
    refine z_aload_n C dX7_take_13 rfl ?_
    refine z_callVd C (ci := 7) rfl (by decide) (by first | assumption | exact hM.1) (mX7_record l G hM hR) (cwV 0 C.2.2.2.2.1 gv7_107 rfl rfl rfl hd_X7_record ⟨Nat.le_of_ble_eq_true rfl, Nat.le_of_ble_eq_true rfl⟩) rfl rfl (Nat.le_of_ble_eq_true rfl) dX7_take_14 ⟨Nat.zero_le _, Nat.zero_le _⟩ ?_
    refine z_aload_n C dX7_take_17 rfl ?_
    refine z_iload_n C dX7_take_18 rfl ?_
    refine z_callVd C (ci := 7) rfl (by decide) (by first | assumption | exact hM.1) (mX7_isMoved l G hM (by rw [recM_1]; exact hO) (by rw [recM_1]; omega)) (cwV 1 C.2.2.2.2.1 gv7_130 rfl rfl rfl hd_X7_isMoved ⟨Nat.le_of_ble_eq_true rfl, Nat.le_of_ble_eq_true rfl⟩) rfl rfl (Nat.le_of_ble_eq_true rfl) dX7_take_19 ⟨Nat.zero_le _, Nat.zero_le _⟩ ?_
    rw [recM_1]
    exact z_iret2 C hQ rfl dX7_take_22 ⟨zr (by first | (rw [if_pos hb.1, if_pos hb.2]; rfl) | ((repeat' split) <;> omega)), rfl, rfl, rfl, by first | (rw [if_pos hb]; rfl) | rw [if_neg (by omega)], rfl⟩
  · refine z_iload_n C dX7_take_11 rfl ?_
    exact z_iret2 C hQ rfl dX7_take_12 ⟨zr (by first | (rw [if_pos hb.1, if_pos hb.2]; rfl) | ((repeat' split) <;> omega)), rfl, rfl, rfl, by first | (rw [if_pos hb]; rfl) | rw [if_neg (by omega)], rfl⟩

set_option maxHeartbeats 4000000 in
set_option maxRecDepth 100000 in
theorem mX7_isError (l : Launch) (G : GG) {z : Nat} {K N : Nat → Nat} {I : MI} {R : MR} {er : Int} (her : -2147483648 ≤ er ∧ er < 2147483648) : Cod l G yX7_isError (Cond.code yX7_isError cX7_isError 1 (some .boolean) :: wsL_law) ⟨1, 0, 0, 22⟩ [.int (zI er)] z K N I R (some (.int (zI (b2i (-99 ≤ er ∧ er ≤ 99))))) I R := by
  refine Con.of (own := RX7) (cc := cX7_isError) (maxL := 1) (ret := (some .boolean)) (by decide +kernel) rfl rfl (Nat.le_of_ble_eq_true rfl) (by decide) rfl ?_
  intro p e9 s mt args below meth c Q hin hQ C
  refine z_iload_n C dX7_isError_0 rfl ?_
  refine z_bipush C dX7_isError_1 (by decide) ?_
  refine z_bipush C dX7_isError_3 (by decide) ?_
  refine z_callSd C (mX7_within l G (by omega) (by omega) (by omega)) (va_cwS 3 C.2.2.2.2.1 gv7_39 rfl rfl rfl hs_X7_within ⟨Nat.le_of_ble_eq_true rfl, Nat.le_of_ble_eq_true rfl⟩) rfl rfl (Nat.le_of_ble_eq_true rfl) dX7_isError_5 ⟨Nat.zero_le _, Nat.zero_le _⟩ ?_
  exact z_zret2 C hQ rfl (by first | exact Or.inl rfl | exact Or.inr rfl | exact b2i_c | omega) dX7_isError_8 ⟨rfl, rfl, rfl, rfl, rfl, rfl⟩

set_option maxHeartbeats 4000000 in
set_option maxRecDepth 100000 in
theorem mX7_whyNoGauge (l : Launch) (G : GG) {z : Nat} {K N : Nat → Nat} {I : MI} {R : MR} {o : Nat} (hM : ShM G z K N R o) (hO : Ok (I (o + 1))) {er pl sp : Int} (her : -2147483648 ≤ er ∧ er < 2147483648) (hpl : -2147483648 ≤ pl ∧ pl < 2147483648) (hsp : -2147483648 ≤ sp ∧ sp < 2147483648) : Cod l G yX7_whyNoGauge (Cond.code yX7_whyNoGauge cX7_whyNoGauge 4 (some .int) :: wsL_law) ⟨2, 0, 0, 42⟩ [.ref o, .int (zI er), .int (zI pl), .int (zI sp)] z K N I R (some (.int (zI (if (-99 ≤ er ∧ er ≤ 99) ∧ (0 ≤ pl ∧ pl ≤ 99) ∧ (1 ≤ sp ∧ sp ≤ 99) then (if I (o + 1) 5 = 6 then -4 else 0) else -2)))) I R := by
  refine Con.of (own := RX7) (cc := cX7_whyNoGauge) (maxL := 4) (ret := (some .int)) (by decide +kernel) rfl rfl (Nat.le_of_ble_eq_true rfl) (by decide) rfl ?_
  intro p e9 s mt args below meth c Q hin hQ C
  obtain ⟨ho, ⟨r0, r1, r3, r4, r5, r7, r8⟩, ⟨k1, k2, k3, k4, k5, k6, k7⟩, n1, n2, n3, n4, n5, n6, n7⟩ := id hM
  have h5 := hO.2.2.2.2.2.1
  refine z_iload_n C dX7_whyNoGauge_0 rfl ?_
  refine z_callSd C (mX7_isError l G her) (va_cwS 1 C.2.2.2.2.1 gv7_133 rfl rfl rfl hs_X7_isError ⟨Nat.le_of_ble_eq_true rfl, Nat.le_of_ble_eq_true rfl⟩) rfl rfl (Nat.le_of_ble_eq_true rfl) dX7_whyNoGauge_1 ⟨Nat.zero_le _, Nat.zero_le _⟩ ?_
  refine z_if_eq C (tgt := 27) dX7_whyNoGauge_4 (by decide) (by first | omega | exact b2i_r) (fun h4 => ?_) (fun h4 => ?_)
  · refine z_bipush C dX7_whyNoGauge_27 (by decide) ?_
    exact z_iret2 C hQ rfl dX7_whyNoGauge_29 ⟨zr (by first | ((repeat' split) <;> omega) | rw [if_neg (by have := b2i_0.mp h24; omega)] | rw [if_neg (by have := b2i_0.mp h14; omega)] | rw [if_neg (by have := b2i_0.mp h4; omega)]), rfl, rfl, rfl, rfl, rfl⟩
  · have g1 := b2i_1.mp h4
    refine z_iload_n C dX7_whyNoGauge_7 rfl ?_
    refine z_iconst C dX7_whyNoGauge_8 ?_
    refine z_bipush C dX7_whyNoGauge_9 (by decide) ?_
    refine z_callSd C (mX7_within l G (by omega) (by omega) (by omega)) (va_cwS 3 C.2.2.2.2.1 gv7_39 rfl rfl rfl hs_X7_within ⟨Nat.le_of_ble_eq_true rfl, Nat.le_of_ble_eq_true rfl⟩) rfl rfl (Nat.le_of_ble_eq_true rfl) dX7_whyNoGauge_11 ⟨Nat.zero_le _, Nat.zero_le _⟩ ?_
    refine z_if_eq C (tgt := 27) dX7_whyNoGauge_14 (by decide) (by first | omega | exact b2i_r) (fun h14 => ?_) (fun h14 => ?_)
    · refine z_bipush C dX7_whyNoGauge_27 (by decide) ?_
      exact z_iret2 C hQ rfl dX7_whyNoGauge_29 ⟨zr (by first | ((repeat' split) <;> omega) | rw [if_neg (by have := b2i_0.mp h24; omega)] | rw [if_neg (by have := b2i_0.mp h14; omega)] | rw [if_neg (by have := b2i_0.mp h4; omega)]), rfl, rfl, rfl, rfl, rfl⟩
    · have g2 := b2i_1.mp h14
      refine z_iload_n C dX7_whyNoGauge_17 rfl ?_
      refine z_iconst C dX7_whyNoGauge_18 ?_
      refine z_bipush C dX7_whyNoGauge_19 (by decide) ?_
      refine z_callSd C (mX7_within l G (by omega) (by omega) (by omega)) (va_cwS 3 C.2.2.2.2.1 gv7_39 rfl rfl rfl hs_X7_within ⟨Nat.le_of_ble_eq_true rfl, Nat.le_of_ble_eq_true rfl⟩) rfl rfl (Nat.le_of_ble_eq_true rfl) dX7_whyNoGauge_21 ⟨Nat.zero_le _, Nat.zero_le _⟩ ?_
      refine z_if_ne C (tgt := 30) dX7_whyNoGauge_24 (by decide) (by first | omega | exact b2i_r) (fun h24 => ?_) (fun h24 => ?_)
      · have g3 := b2i_1.mp h24
        refine z_aload_n C dX7_whyNoGauge_30 rfl ?_
        refine z_gR C (ci := 7) (k := 0) rfl (by decide) rfl (by decide) wl_7 wq_4_3 (by decide) dX7_whyNoGauge_31 (by assumption) (by assumption) ?_
        refine z_iconst C dX7_whyNoGauge_34 ?_
        refine z_ialdk C (5) dX7_whyNoGauge_35 (by assumption) (by first | rfl | omega) (by omega) (by omega) ?_
        refine z_bipush C dX7_whyNoGauge_36 (by decide) ?_
        refine z_icmp_ne C (tgt := 46) dX7_whyNoGauge_38 (by decide) (by first | omega | exact b2i_r) (by first | omega | exact b2i_r) (fun h38 => ?_) (fun h38 => ?_)
        · refine z_iconst C dX7_whyNoGauge_46 ?_
          exact z_iret2 C hQ rfl dX7_whyNoGauge_47 ⟨zr (by first | ((repeat' split) <;> omega) | rw [if_neg (by have := b2i_0.mp h24; omega)] | rw [if_neg (by have := b2i_0.mp h14; omega)] | rw [if_neg (by have := b2i_0.mp h4; omega)]), rfl, rfl, rfl, rfl, rfl⟩
        · refine z_bipush C dX7_whyNoGauge_41 (by decide) ?_
          refine z_goto C (tgt := 47) dX7_whyNoGauge_43 (by decide) ?_
          exact z_iret2 C hQ rfl dX7_whyNoGauge_47 ⟨zr (by first | ((repeat' split) <;> omega) | rw [if_neg (by have := b2i_0.mp h24; omega)] | rw [if_neg (by have := b2i_0.mp h14; omega)] | rw [if_neg (by have := b2i_0.mp h4; omega)]), rfl, rfl, rfl, rfl, rfl⟩
      · refine z_bipush C dX7_whyNoGauge_27 (by decide) ?_
        exact z_iret2 C hQ rfl dX7_whyNoGauge_29 ⟨zr (by first | ((repeat' split) <;> omega) | rw [if_neg (by have := b2i_0.mp h24; omega)] | rw [if_neg (by have := b2i_0.mp h14; omega)] | rw [if_neg (by have := b2i_0.mp h4; omega)]), rfl, rfl, rfl, rfl, rfl⟩

set_option maxHeartbeats 4000000 in
set_option maxRecDepth 100000 in
theorem mX7_comesGauge (l : Launch) (G : GG) {z : Nat} {K N : Nat → Nat} {I : MI} {R : MR} {o : Nat} (hM : ShM G z K N R o) (hO : Ok (I (o + 1))) (h6 : I (o + 1) 5 < 6) {er pl sp : Int} (her : -99 ≤ er ∧ er ≤ 99) (hpl : 0 ≤ pl ∧ pl ≤ 99) (hsp : 1 ≤ sp ∧ sp ≤ 99) : Cod l G yX7_comesGauge (Cond.code yX7_comesGauge cX7_comesGauge 6 (some .int) :: wsL_law) ⟨5, 0, 0, 107⟩ [.ref o, .int (zI er), .int (zI pl), .int (zI sp)] z K N I R (some (.int (zI (I (o + 1) 5)))) (va_up I (o + 1) (gaugeF (I (o + 1)) er pl sp)) R := by
  refine Con.of (own := RX7) (cc := cX7_comesGauge) (maxL := 6) (ret := (some .int)) (by decide +kernel) rfl rfl (Nat.le_of_ble_eq_true rfl) (by decide) rfl ?_
  intro p e9 s mt args below meth c Q hin hQ C
  obtain ⟨ho, ⟨r0, r1, r3, r4, r5, r7, r8⟩, ⟨k1, k2, k3, k4, k5, k6, k7⟩, n1, n2, n3, n4, n5, n6, n7⟩ := id hM
  have h5 := hO.2.2.2.2.2.1
  have hloop : ∀ (n : Nat) (g k : Nat), g < 6 → k ≤ 36 → I (o + 1) 5 = (g : Int) → 36 - k < n → Zq p l e9 ⟨5, 0, 0, 107⟩ s mt args below meth c G 6 Q 0 0 z K N (va_up I (o + 1) (zeroK g k (I (o + 1)))) R 11 [(0, .ref o), (1, .int (zI er)), (2, .int (zI pl)), (3, .int (zI sp)), (4, .int (zI (g : Int))), (5, .int (zI (k : Int)))] [] := by
    intro n
    induction n with
    | zero => intro g k h0 h1 hg h2; exact absurd h2 (by omega)
    | succ n ih =>
      intro g k h0 h1 hg h2
      refine z_iload C dX7_comesGauge_11 rfl ?_
      refine z_bipush C dX7_comesGauge_13 (by decide) ?_
      refine z_icmp_ge C (tgt := 33) dX7_comesGauge_15 (by decide) (by first | omega | exact b2i_r) (by first | omega | exact b2i_r) (fun h15 => ?_) (fun h15 => ?_)
      · rw [show k = 36 by omega]
        refine z_aload_n C dX7_comesGauge_33 rfl ?_
        refine z_iload C dX7_comesGauge_34 rfl ?_
        refine z_iconst C dX7_comesGauge_36 ?_
        refine z_iload_n C dX7_comesGauge_37 rfl ?_
        refine z_callVd C (ci := 7) rfl (by decide) (by first | assumption | exact hM.1) (mX7_setPart l G hM (by omega) (by omega)) (cwV 3 C.2.2.2.2.1 gv7_74 rfl rfl rfl hd_X7_setPart ⟨Nat.le_of_ble_eq_true rfl, Nat.le_of_ble_eq_true rfl⟩) rfl rfl (Nat.le_of_ble_eq_true rfl) dX7_comesGauge_38 ⟨Nat.zero_le _, Nat.zero_le _⟩ ?_
        rw [show (20 + 36 * (g : Int) + 0).toNat = 20 + 36 * g by omega, u2_vst]
        refine z_aload_n C dX7_comesGauge_41 rfl ?_
        refine z_iload C dX7_comesGauge_42 rfl ?_
        refine z_iconst C dX7_comesGauge_44 ?_
        refine z_iload_n C dX7_comesGauge_45 rfl ?_
        refine z_callVd C (ci := 7) rfl (by decide) (by first | assumption | exact hM.1) (mX7_setPart l G hM (by omega) (by omega)) (cwV 3 C.2.2.2.2.1 gv7_74 rfl rfl rfl hd_X7_setPart ⟨Nat.le_of_ble_eq_true rfl, Nat.le_of_ble_eq_true rfl⟩) rfl rfl (Nat.le_of_ble_eq_true rfl) dX7_comesGauge_46 ⟨Nat.zero_le _, Nat.zero_le _⟩ ?_
        rw [show (20 + 36 * (g : Int) + 1).toNat = 21 + 36 * g by omega, u2_vst]
        refine z_aload_n C dX7_comesGauge_49 rfl ?_
        refine z_iload C dX7_comesGauge_50 rfl ?_
        refine z_iconst C dX7_comesGauge_52 ?_
        refine z_iload_n C dX7_comesGauge_53 rfl ?_
        refine z_callVd C (ci := 7) rfl (by decide) (by first | assumption | exact hM.1) (mX7_setPart l G hM (by omega) (by omega)) (cwV 3 C.2.2.2.2.1 gv7_74 rfl rfl rfl hd_X7_setPart ⟨Nat.le_of_ble_eq_true rfl, Nat.le_of_ble_eq_true rfl⟩) rfl rfl (Nat.le_of_ble_eq_true rfl) dX7_comesGauge_54 ⟨Nat.zero_le _, Nat.zero_le _⟩ ?_
        rw [show (20 + 36 * (g : Int) + 2).toNat = 22 + 36 * g by omega, u2_vst]
        refine z_aload_n C dX7_comesGauge_57 rfl ?_
        refine z_gR C (ci := 7) (k := 0) rfl (by decide) rfl (by decide) wl_7 wq_4_3 (by decide) dX7_comesGauge_58 (by assumption) (by assumption) ?_
        refine z_iconst C dX7_comesGauge_61 ?_
        refine z_dup2 C dX7_comesGauge_62 rfl rfl ?_
        refine z_ialdk C (5) dX7_comesGauge_63 (by assumption) (by first | rfl | omega) (by omega) (by omega) ?_
        rw [va_up_s, st1_n (by omega), st1_n (by omega), st1_n (by omega), show zeroK g 36 (I (o + 1)) 5 = I (o + 1) 5 from if_neg (by omega)]
        refine z_iconst C dX7_comesGauge_64 ?_
        refine z_iadd C dX7_comesGauge_65 ?_
        refine z_iastk C (5) dX7_comesGauge_66 (by assumption) (by first | rfl | omega) (by omega) (by omega) ?_
        rw [u2_vst]
        have hg2 : (I (o + 1) 5).toNat = g := by omega
        have hOg : Ok (gaugeV (I (o + 1)) g er pl sp) := by rw [← hg2]; exact hO.h_gaugeV h6 her hpl hsp
        have hg5 : gaugeV (I (o + 1)) g er pl sp 5 = I (o + 1) 5 + 1 := st1_s _ _ _
        refine z_aload_n C dX7_comesGauge_67 rfl ?_
        refine z_iload C dX7_comesGauge_68 rfl ?_
        refine z_callVd C (ci := 7) rfl (by decide) (by first | assumption | exact hM.1) (mX7_handGoes l G hM (by rw [va_up_s]; exact hOg) (g := g) (by rw [va_up_s]; show (g : Int) < gaugeV (I (o + 1)) g er pl sp 5; omega)) (cwV 1 C.2.2.2.2.1 gv7_78 rfl rfl rfl hd_X7_handGoes ⟨Nat.le_of_ble_eq_true rfl, Nat.le_of_ble_eq_true rfl⟩) rfl rfl (Nat.le_of_ble_eq_true rfl) dX7_comesGauge_70 ⟨Nat.zero_le _, Nat.zero_le _⟩ ?_
        rw [u2_vst, va_up_s]
        refine z_iload C dX7_comesGauge_73 rfl ?_
        exact z_iret2 C hQ rfl dX7_comesGauge_75 ⟨zr hg.symm, rfl, rfl, rfl, by unfold gaugeF; rw [hg2]; rfl, rfl⟩
      · refine z_aload_n C dX7_comesGauge_18 rfl ?_
        refine z_iload C dX7_comesGauge_19 rfl ?_
        refine z_iload C dX7_comesGauge_21 rfl ?_
        refine z_iconst C dX7_comesGauge_23 ?_
        refine z_callVd C (ci := 7) rfl (by decide) (by first | assumption | exact hM.1) (mX7_setPart l G hM (by omega) (by omega)) (cwV 3 C.2.2.2.2.1 gv7_74 rfl rfl rfl hd_X7_setPart ⟨Nat.le_of_ble_eq_true rfl, Nat.le_of_ble_eq_true rfl⟩) rfl rfl (Nat.le_of_ble_eq_true rfl) dX7_comesGauge_24 ⟨Nat.zero_le _, Nat.zero_le _⟩ ?_
        rw [u2_vst]
        refine z_mem (I' := va_up I (o + 1) (zeroK g (k + 1) (I (o + 1)))) ?_ rfl ?_
        · congr 1
          funext j
          unfold st1 zeroK
          by_cases hj : j = 20 + 36 * g + k
          · rw [if_pos (by omega), if_pos (by omega)]
          · rw [if_neg (by omega)]
            by_cases h : 20 + 36 * g ≤ j ∧ j < 20 + 36 * g + k
            · rw [if_pos h, if_pos (by omega)]
            · rw [if_neg h, if_neg (by omega)]
        refine z_iinc C dX7_comesGauge_27 rfl (by decide) rfl ?_
        refine z_goto C (tgt := 11) dX7_comesGauge_30 (by decide) ?_
        exact ih g (k + 1) h0 (by omega) hg (by omega)
  refine z_aload_n C dX7_comesGauge_0 rfl ?_
  refine z_gR C (ci := 7) (k := 0) rfl (by decide) rfl (by decide) wl_7 wq_4_3 (by decide) dX7_comesGauge_1 (by assumption) (by assumption) ?_
  refine z_iconst C dX7_comesGauge_4 ?_
  refine z_ialdk C (5) dX7_comesGauge_5 (by assumption) (by first | rfl | omega) (by omega) (by omega) ?_
  obtain ⟨g, hg⟩ : ∃ g : Nat, I (o + 1) 5 = (g : Int) := ⟨(I (o + 1) 5).toNat, by omega⟩
  rw [hg]
  refine z_istore C dX7_comesGauge_6 (by decide) rfl ?_
  refine z_iconst C dX7_comesGauge_8 ?_
  refine z_istore C dX7_comesGauge_9 (by decide) rfl ?_
  refine z_mem (I' := va_up I (o + 1) (zeroK g 0 (I (o + 1)))) (by rw [show zeroK g 0 (I (o + 1)) = I (o + 1) from funext fun j => if_neg (by omega), va_upS]) rfl ?_
  exact hloop 37 g 0 (by omega) (by omega) hg (by omega)

set_option maxHeartbeats 4000000 in
set_option maxRecDepth 100000 in
theorem mX7_gauge (l : Launch) (G : GG) {z : Nat} {K N : Nat → Nat} {I : MI} {R : MR} {o : Nat} (hM : ShM G z K N R o) (hO : Ok (I (o + 1))) (hR : 0 ≤ I o 2 ∧ I o 2 ≤ 6) {er pl sp : Int} (her : -2147483648 ≤ er ∧ er < 2147483648) (hpl : -2147483648 ≤ pl ∧ pl < 2147483648) (hsp : -2147483648 ≤ sp ∧ sp < 2147483648) : Cod l G yX7_gauge (Cond.code yX7_gauge cX7_gauge 5 (some .int) :: wsL_law) ⟨6, 0, 0, 132⟩ [.ref o, .int (zI er), .int (zI pl), .int (zI sp)] z K N I R (some (.int (zI (if (-99 ≤ er ∧ er ≤ 99) ∧ (0 ≤ pl ∧ pl ≤ 99) ∧ (1 ≤ sp ∧ sp ≤ 99) then (if I (o + 1) 5 = 6 then -4 else I (o + 1) 5) else -2)))) (if ((-99 ≤ er ∧ er ≤ 99) ∧ (0 ≤ pl ∧ pl ≤ 99) ∧ (1 ≤ sp ∧ sp ≤ 99)) ∧ ¬ I (o + 1) 5 = 6 then va_up (recM I o) (o + 1) (gaugeF (I (o + 1)) er pl sp) else I) R := by
  refine Con.of (own := RX7) (cc := cX7_gauge) (maxL := 5) (ret := (some .int)) (by decide +kernel) rfl rfl (Nat.le_of_ble_eq_true rfl) (by decide) rfl ?_
  intro p e9 s mt args below meth c Q hin hQ C
  have h5 := hO.2.2.2.2.2.1
  refine z_aload_n C dX7_gauge_0 rfl ?_
  refine z_iload_n C dX7_gauge_1 rfl ?_
  refine z_iload_n C dX7_gauge_2 rfl ?_
  refine z_iload_n C dX7_gauge_3 rfl ?_
  refine z_callVd C (ci := 7) rfl (by decide) (by first | assumption | exact hM.1) (mX7_whyNoGauge l G hM hO her hpl hsp) (cwV 3 C.2.2.2.2.1 gv7_136 rfl rfl rfl hd_X7_whyNoGauge ⟨Nat.le_of_ble_eq_true rfl, Nat.le_of_ble_eq_true rfl⟩) rfl rfl (Nat.le_of_ble_eq_true rfl) dX7_gauge_4 ⟨Nat.zero_le _, Nat.zero_le _⟩ ?_
  obtain ⟨w, hw, hw2⟩ : ∃ w : Int, w = (if (-99 ≤ er ∧ er ≤ 99) ∧ (0 ≤ pl ∧ pl ≤ 99) ∧ (1 ≤ sp ∧ sp ≤ 99) then (if I (o + 1) 5 = 6 then -4 else 0) else -2) ∧ ((w = -2 ∧ ¬ ((-99 ≤ er ∧ er ≤ 99) ∧ (0 ≤ pl ∧ pl ≤ 99) ∧ (1 ≤ sp ∧ sp ≤ 99))) ∨ (w = -4 ∧ ((-99 ≤ er ∧ er ≤ 99) ∧ (0 ≤ pl ∧ pl ≤ 99) ∧ (1 ≤ sp ∧ sp ≤ 99)) ∧ I (o + 1) 5 = 6) ∨ (w = 0 ∧ ((-99 ≤ er ∧ er ≤ 99) ∧ (0 ≤ pl ∧ pl ≤ 99) ∧ (1 ≤ sp ∧ sp ≤ 99)) ∧ ¬ I (o + 1) 5 = 6)) := ⟨_, rfl, (by (repeat' split) <;> omega)⟩
  rw [← hw]
  refine z_istore C dX7_gauge_7 (by decide) rfl ?_
  refine z_iload C dX7_gauge_9 rfl ?_
  refine z_if_ge C (tgt := 17) dX7_gauge_11 (by decide) (by first | omega | exact b2i_r) (fun h11 => ?_) (fun h11 => ?_)
  · refine z_aload_n C dX7_gauge_17 rfl ?_
    refine z_callVd C (ci := 7) rfl (by decide) (by first | assumption | exact hM.1) (mX7_record l G hM hR) (cwV 0 C.2.2.2.2.1 gv7_107 rfl rfl rfl hd_X7_record ⟨Nat.le_of_ble_eq_true rfl, Nat.le_of_ble_eq_true rfl⟩) rfl rfl (Nat.le_of_ble_eq_true rfl) dX7_gauge_18 ⟨Nat.zero_le _, Nat.zero_le _⟩ ?_
    refine z_aload_n C dX7_gauge_21 rfl ?_
    refine z_iload_n C dX7_gauge_22 rfl ?_
    refine z_iload_n C dX7_gauge_23 rfl ?_
    refine z_iload_n C dX7_gauge_24 rfl ?_
    refine z_callVd C (ci := 7) rfl (by decide) (by first | assumption | exact hM.1) (mX7_comesGauge l G hM (by rw [recM_1]; exact hO) (by rw [recM_1]; omega) (by omega) (by omega) (by omega)) (cwV 3 C.2.2.2.2.1 gv7_140 rfl rfl rfl hd_X7_comesGauge ⟨Nat.le_of_ble_eq_true rfl, Nat.le_of_ble_eq_true rfl⟩) rfl rfl (Nat.le_of_ble_eq_true rfl) dX7_gauge_25 ⟨Nat.zero_le _, Nat.zero_le _⟩ ?_
    rw [recM_1]
    exact z_iret2 C hQ rfl dX7_gauge_28 ⟨zr (by (repeat' split) <;> omega), rfl, rfl, rfl, by first | rw [if_pos (by omega)] | rw [if_neg (by omega)], rfl⟩
  · refine z_iload C dX7_gauge_14 rfl ?_
    exact z_iret2 C hQ rfl dX7_gauge_16 ⟨zr (by (repeat' split) <;> omega), rfl, rfl, rfl, by first | rw [if_pos (by omega)] | rw [if_neg (by omega)], rfl⟩

set_option maxHeartbeats 4000000 in
set_option maxRecDepth 100000 in
theorem mX7_tune (l : Launch) (G : GG) {z : Nat} {K N : Nat → Nat} {I : MI} {R : MR} {o : Nat} (hM : ShM G z K N R o) (hO : Ok (I (o + 1))) (hR : 0 ≤ I o 2 ∧ I o 2 ≤ 6) {gg er : Int} (hgg : -2147483648 ≤ gg ∧ gg < 2147483648) (her : -2147483648 ≤ er ∧ er < 2147483648) : Cod l G yX7_tune (Cond.code yX7_tune cX7_tune 4 (some .int) :: wsL_law) ⟨5, 0, 0, 107⟩ [.ref o, .int (zI gg), .int (zI er)] z K N I R (some (.int (zI (if 0 ≤ gg ∧ gg ≤ I (o + 1) 5 - 1 then (if -99 ≤ er ∧ er ≤ 99 then I (o + 1) (20 + 36 * gg.toNat) + 100 else -2) else -1)))) (if (0 ≤ gg ∧ gg ≤ I (o + 1) 5 - 1) ∧ (-99 ≤ er ∧ er ≤ 99) then va_up (recM I o) (o + 1) (tuneF (I (o + 1)) gg.toNat er) else I) R := by
  refine Con.of (own := RX7) (cc := cX7_tune) (maxL := 4) (ret := (some .int)) (by decide +kernel) rfl rfl (Nat.le_of_ble_eq_true rfl) (by decide) rfl ?_
  intro p e9 s mt args below meth c Q hin hQ C
  have h5 := hO.2.2.2.2.2.1
  refine z_aload_n C dX7_tune_0 rfl ?_
  refine z_iload_n C dX7_tune_1 rfl ?_
  refine z_callVd C (ci := 7) rfl (by decide) (by first | assumption | exact hM.1) (mX7_isGauge l G hM hO hgg) (cwV 1 C.2.2.2.2.1 gv7_143 rfl rfl rfl hd_X7_isGauge ⟨Nat.le_of_ble_eq_true rfl, Nat.le_of_ble_eq_true rfl⟩) rfl rfl (Nat.le_of_ble_eq_true rfl) dX7_tune_2 ⟨Nat.zero_le _, Nat.zero_le _⟩ ?_
  refine z_if_eq C (tgt := 15) dX7_tune_5 (by decide) (by first | omega | exact b2i_r) (fun h5 => ?_) (fun h5 => ?_)
  · refine z_aload_n C dX7_tune_15 rfl ?_
    refine z_iload_n C dX7_tune_16 rfl ?_
    refine z_callVd C (ci := 7) rfl (by decide) (by first | assumption | exact hM.1) (mX7_isGauge l G hM hO hgg) (cwV 1 C.2.2.2.2.1 gv7_143 rfl rfl rfl hd_X7_isGauge ⟨Nat.le_of_ble_eq_true rfl, Nat.le_of_ble_eq_true rfl⟩) rfl rfl (Nat.le_of_ble_eq_true rfl) dX7_tune_17 ⟨Nat.zero_le _, Nat.zero_le _⟩ ?_
    refine z_if_eq C (tgt := 28) dX7_tune_20 (by decide) (by first | omega | exact b2i_r) (fun h20 => ?_) (fun h20 => ?_)
    · have g4 := b2i_0.mp h20
      refine z_iconst C dX7_tune_28 ?_
      exact z_iret2 C hQ rfl dX7_tune_29 ⟨zr (by first | (rw [if_pos hb.1, if_pos hb.2]; rfl) | rw [if_neg g4] | (rw [if_pos g3, if_neg (b2i_0.mp h12)])  | ((repeat' split) <;> omega)), rfl, rfl, rfl, by first | (rw [if_pos hb, hJ]; rfl) | rw [if_neg (fun z => g4 z.1)] | rw [if_neg (fun z => b2i_0.mp h12 z.2)] | rw [if_neg (fun z => b2i_0.mp h5 z.1)], rfl⟩
    · have g3 := b2i_1.mp h20
      refine z_bipush C dX7_tune_23 (by decide) ?_
      refine z_goto C (tgt := 29) dX7_tune_25 (by decide) ?_
      exact z_iret2 C hQ rfl dX7_tune_29 ⟨zr (by first | (rw [if_pos hb.1, if_pos hb.2]; rfl) | rw [if_neg g4] | (rw [if_pos g3, if_neg (b2i_0.mp h12)])  | ((repeat' split) <;> omega)), rfl, rfl, rfl, by first | (rw [if_pos hb, hJ]; rfl) | rw [if_neg (fun z => g4 z.1)] | rw [if_neg (fun z => b2i_0.mp h12 z.2)] | rw [if_neg (fun z => b2i_0.mp h5 z.1)], rfl⟩
  · have g1 := b2i_1.mp h5
    refine z_iload_n C dX7_tune_8 rfl ?_
    refine z_callSd C (mX7_isError l G her) (va_cwS 1 C.2.2.2.2.1 gv7_133 rfl rfl rfl hs_X7_isError ⟨Nat.le_of_ble_eq_true rfl, Nat.le_of_ble_eq_true rfl⟩) rfl rfl (Nat.le_of_ble_eq_true rfl) dX7_tune_9 ⟨Nat.zero_le _, Nat.zero_le _⟩ ?_
    refine z_if_ne C (tgt := 30) dX7_tune_12 (by decide) (by first | omega | exact b2i_r) (fun h12 => ?_) (fun h12 => ?_)
    · have g2 := b2i_1.mp h12
      have hb : (0 ≤ gg ∧ gg ≤ I (o + 1) 5 - 1) ∧ (-99 ≤ er ∧ er ≤ 99) := ⟨g1, g2⟩
      obtain ⟨n9, rfl⟩ := Int.eq_ofNat_of_zero_le (show 0 ≤ gg by omega)
      refine z_aload_n C dX7_tune_30 rfl ?_
      refine z_callVd C (ci := 7) rfl (by decide) (by first | assumption | exact hM.1) (mX7_record l G hM hR) (cwV 0 C.2.2.2.2.1 gv7_107 rfl rfl rfl hd_X7_record ⟨Nat.le_of_ble_eq_true rfl, Nat.le_of_ble_eq_true rfl⟩) rfl rfl (Nat.le_of_ble_eq_true rfl) dX7_tune_31 ⟨Nat.zero_le _, Nat.zero_le _⟩ ?_
      obtain ⟨J, hJ⟩ : ∃ J : MI, J = recM I o := ⟨_, rfl⟩
      rw [← hJ]
      have jr1 : J (o + 1) = I (o + 1) := by rw [hJ, recM_1]
      have ht5 : tuneV (I (o + 1)) n9 er 5 = I (o + 1) 5 := (if_neg (by omega)).trans (st1_n (by omega))
      refine z_aload_n C dX7_tune_34 rfl ?_
      refine z_iload_n C dX7_tune_35 rfl ?_
      refine z_iconst C dX7_tune_36 ?_
      refine z_callVd C (ci := 7) rfl (by decide) (by first | assumption | exact hM.1) (mX7_part l G hM (by omega) (by omega)) (cwV 2 C.2.2.2.2.1 gv7_64 rfl rfl rfl hd_X7_part ⟨Nat.le_of_ble_eq_true rfl, Nat.le_of_ble_eq_true rfl⟩) rfl rfl (Nat.le_of_ble_eq_true rfl) dX7_tune_37 ⟨Nat.zero_le _, Nat.zero_le _⟩ ?_
      rw [jr1, show (20 + 36 * (n9 : Int) + 0).toNat = 20 + 36 * n9 by omega]
      refine z_istore_n C dX7_tune_40 (by decide) rfl ?_
      refine z_aload_n C dX7_tune_41 rfl ?_
      refine z_iload_n C dX7_tune_42 rfl ?_
      refine z_iconst C dX7_tune_43 ?_
      refine z_iload_n C dX7_tune_44 rfl ?_
      refine z_callVd C (ci := 7) rfl (by decide) (by first | assumption | exact hM.1) (mX7_setPart l G hM (by omega) (by omega)) (cwV 3 C.2.2.2.2.1 gv7_74 rfl rfl rfl hd_X7_setPart ⟨Nat.le_of_ble_eq_true rfl, Nat.le_of_ble_eq_true rfl⟩) rfl rfl (Nat.le_of_ble_eq_true rfl) dX7_tune_45 ⟨Nat.zero_le _, Nat.zero_le _⟩ ?_
      rw [u2_st, jr1, show (20 + 36 * (n9 : Int) + 0).toNat = 20 + 36 * n9 by omega]
      refine z_aload_n C dX7_tune_48 rfl ?_
      refine z_iload_n C dX7_tune_49 rfl ?_
      refine z_callVd C (ci := 7) rfl (by decide) (by first | assumption | exact hM.1) (mX7_voids l G hM (g := n9) (by omega)) (cwV 1 C.2.2.2.2.1 gv7_82 rfl rfl rfl hd_X7_voids ⟨Nat.le_of_ble_eq_true rfl, Nat.le_of_ble_eq_true rfl⟩) rfl rfl (Nat.le_of_ble_eq_true rfl) dX7_tune_50 ⟨Nat.zero_le _, Nat.zero_le _⟩ ?_
      rw [va_up_s, va_up2]
      refine z_aload_n C dX7_tune_53 rfl ?_
      refine z_iload_n C dX7_tune_54 rfl ?_
      refine z_callVd C (ci := 7) rfl (by decide) (by first | assumption | exact hM.1) (mX7_handGoes l G hM (by rw [va_up_s]; exact hO.h_tuneV n9 hb.2) (g := n9) (by rw [va_up_s]; show (n9 : Int) < tuneV (I (o + 1)) n9 er 5; rw [ht5]; omega)) (cwV 1 C.2.2.2.2.1 gv7_78 rfl rfl rfl hd_X7_handGoes ⟨Nat.le_of_ble_eq_true rfl, Nat.le_of_ble_eq_true rfl⟩) rfl rfl (Nat.le_of_ble_eq_true rfl) dX7_tune_55 ⟨Nat.zero_le _, Nat.zero_le _⟩ ?_
      rw [u2_vst, va_up_s]
      refine z_iload_n C dX7_tune_58 rfl ?_
      refine z_bipush C dX7_tune_59 (by decide) ?_
      refine z_iadd C dX7_tune_61 ?_
      exact z_iret2 C hQ rfl dX7_tune_62 ⟨zr (by first | (rw [if_pos hb.1, if_pos hb.2]; rfl) | rw [if_neg g4] | (rw [if_pos g3, if_neg (b2i_0.mp h12)])  | ((repeat' split) <;> omega)), rfl, rfl, rfl, by first | (rw [if_pos hb, hJ]; rfl) | rw [if_neg (fun z => g4 z.1)] | rw [if_neg (fun z => b2i_0.mp h12 z.2)] | rw [if_neg (fun z => b2i_0.mp h5 z.1)], rfl⟩
    · refine z_aload_n C dX7_tune_15 rfl ?_
      refine z_iload_n C dX7_tune_16 rfl ?_
      refine z_callVd C (ci := 7) rfl (by decide) (by first | assumption | exact hM.1) (mX7_isGauge l G hM hO hgg) (cwV 1 C.2.2.2.2.1 gv7_143 rfl rfl rfl hd_X7_isGauge ⟨Nat.le_of_ble_eq_true rfl, Nat.le_of_ble_eq_true rfl⟩) rfl rfl (Nat.le_of_ble_eq_true rfl) dX7_tune_17 ⟨Nat.zero_le _, Nat.zero_le _⟩ ?_
      refine z_if_eq C (tgt := 28) dX7_tune_20 (by decide) (by first | omega | exact b2i_r) (fun h20 => ?_) (fun h20 => ?_)
      · have g4 := b2i_0.mp h20
        refine z_iconst C dX7_tune_28 ?_
        exact z_iret2 C hQ rfl dX7_tune_29 ⟨zr (by first | (rw [if_pos hb.1, if_pos hb.2]; rfl) | rw [if_neg g4] | (rw [if_pos g3, if_neg (b2i_0.mp h12)])  | ((repeat' split) <;> omega)), rfl, rfl, rfl, by first | (rw [if_pos hb, hJ]; rfl) | rw [if_neg (fun z => g4 z.1)] | rw [if_neg (fun z => b2i_0.mp h12 z.2)] | rw [if_neg (fun z => b2i_0.mp h5 z.1)], rfl⟩
      · have g3 := b2i_1.mp h20
        refine z_bipush C dX7_tune_23 (by decide) ?_
        refine z_goto C (tgt := 29) dX7_tune_25 (by decide) ?_
        exact z_iret2 C hQ rfl dX7_tune_29 ⟨zr (by first | (rw [if_pos hb.1, if_pos hb.2]; rfl) | rw [if_neg g4] | (rw [if_pos g3, if_neg (b2i_0.mp h12)])  | ((repeat' split) <;> omega)), rfl, rfl, rfl, by first | (rw [if_pos hb, hJ]; rfl) | rw [if_neg (fun z => g4 z.1)] | rw [if_neg (fun z => b2i_0.mp h12 z.2)] | rw [if_neg (fun z => b2i_0.mp h5 z.1)], rfl⟩

set_option maxHeartbeats 4000000 in
set_option maxRecDepth 100000 in
theorem mX7_whyNotCertified (l : Launch) (G : GG) {z : Nat} {K N : Nat → Nat} {I : MI} {R : MR} {o : Nat} (hM : ShM G z K N R o) (hO : Ok (I (o + 1))) {gg : Int} (hgg : -2147483648 ≤ gg ∧ gg < 2147483648) : Cod l G yX7_whyNotCertified (Cond.code yX7_whyNotCertified cX7_whyNotCertified 2 (some .int) :: wsL_law) ⟨2, 0, 0, 43⟩ [.ref o, .int (zI gg)] z K N I R (some (.int (zI (if 0 ≤ gg ∧ gg ≤ I (o + 1) 5 - 1 then (if I (o + 1) 3 = 0 then -5 else 0) else -1)))) I R := by
  refine Con.of (own := RX7) (cc := cX7_whyNotCertified) (maxL := 2) (ret := (some .int)) (by decide +kernel) rfl rfl (Nat.le_of_ble_eq_true rfl) (by decide) rfl ?_
  intro p e9 s mt args below meth c Q hin hQ C
  obtain ⟨ho, ⟨r0, r1, r3, r4, r5, r7, r8⟩, ⟨k1, k2, k3, k4, k5, k6, k7⟩, n1, n2, n3, n4, n5, n6, n7⟩ := id hM
  have h5 := hO.2.2.2.2.2.1
  have h3 := hO.2.2.2.1
  refine z_aload_n C dX7_whyNotCertified_0 rfl ?_
  refine z_iload_n C dX7_whyNotCertified_1 rfl ?_
  refine z_callVd C (ci := 7) rfl (by decide) (by first | assumption | exact hM.1) (mX7_isGauge l G hM hO hgg) (cwV 1 C.2.2.2.2.1 gv7_143 rfl rfl rfl hd_X7_isGauge ⟨Nat.le_of_ble_eq_true rfl, Nat.le_of_ble_eq_true rfl⟩) rfl rfl (Nat.le_of_ble_eq_true rfl) dX7_whyNotCertified_2 ⟨Nat.zero_le _, Nat.zero_le _⟩ ?_
  refine z_if_ne C (tgt := 12) dX7_whyNotCertified_5 (by decide) (by first | omega | exact b2i_r) (fun h5 => ?_) (fun h5 => ?_)
  · have hb := b2i_1.mp h5
    refine z_aload_n C dX7_whyNotCertified_12 rfl ?_
    refine z_gR C (ci := 7) (k := 0) rfl (by decide) rfl (by decide) wl_7 wq_4_3 (by decide) dX7_whyNotCertified_13 (by assumption) (by assumption) ?_
    refine z_iconst C dX7_whyNotCertified_16 ?_
    refine z_ialdk C (3) dX7_whyNotCertified_17 (by assumption) (by first | rfl | omega) (by omega) (by omega) ?_
    refine z_if_ne C (tgt := 26) dX7_whyNotCertified_18 (by decide) (by first | omega | exact b2i_r) (fun h18 => ?_) (fun h18 => ?_)
    · refine z_iconst C dX7_whyNotCertified_26 ?_
      exact z_iret2 C hQ rfl dX7_whyNotCertified_27 ⟨zr (by (repeat' split) <;> omega), rfl, rfl, rfl, rfl, rfl⟩
    · refine z_bipush C dX7_whyNotCertified_21 (by decide) ?_
      refine z_goto C (tgt := 27) dX7_whyNotCertified_23 (by decide) ?_
      exact z_iret2 C hQ rfl dX7_whyNotCertified_27 ⟨zr (by (repeat' split) <;> omega), rfl, rfl, rfl, rfl, rfl⟩
  · have hb := b2i_0.mp h5
    refine z_iconst C dX7_whyNotCertified_8 ?_
    refine z_goto C (tgt := 27) dX7_whyNotCertified_9 (by decide) ?_
    exact z_iret2 C hQ rfl dX7_whyNotCertified_27 ⟨zr (by (repeat' split) <;> omega), rfl, rfl, rfl, rfl, rfl⟩

