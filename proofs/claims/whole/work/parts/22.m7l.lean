theorem wnP_43 (S : Nat → Int) (a b d : Int) : wnP S 43 a b d = (if 0 ≤ a ∧ a ≤ S 3 - 1 then (if S 4 / 2 ^ a.toNat % 2 = 0 then 0 else -5) else -1) := if_pos rfl
theorem wnP_45 (S : Nat → Int) (a b d : Int) : wnP S 45 a b d = (if 0 ≤ a ∧ a ≤ S 3 - 1 then (if S 4 / 2 ^ a.toNat % 2 = 1 then 0 else -5) else -1) := (if_neg (by decide)).trans (if_pos rfl)
theorem wnP_103 (S : Nat → Int) (a b d : Int) : wnP S 103 a b d = (if (-99 ≤ a ∧ a ≤ 99) ∧ (0 ≤ b ∧ b ≤ 99) ∧ (1 ≤ d ∧ d ≤ 99) then (if S 5 = 6 then -4 else 0) else -2) := (if_neg (by decide)).trans ((if_neg (by decide)).trans (if_pos rfl))
theorem wnP_109 (S : Nat → Int) (a b d : Int) : wnP S 109 a b d = (if 1 ≤ a ∧ a ≤ 9999 then (if S 3 = 14 then -4 else 0) else -2) := (if_neg (by decide)).trans ((if_neg (by decide)).trans ((if_neg (by decide)).trans (if_pos rfl)))
theorem wnP_116 (S : Nat → Int) (a b d : Int) : wnP S 116 a b d = (if 0 ≤ a ∧ a ≤ S 5 - 1 then (if S 3 = 0 then -5 else 0) else -1) := (if_neg (by decide)).trans ((if_neg (by decide)).trans ((if_neg (by decide)).trans ((if_neg (by decide)).trans (if_pos rfl))))
theorem wnP_x (S : Nat → Int) {w : Int} (a b d : Int) (h : ¬ w = 43 ∧ ¬ w = 45 ∧ ¬ w = 103 ∧ ¬ w = 109 ∧ ¬ w = 116) : wnP S w a b d = 0 := (if_neg h.1).trans ((if_neg h.2.1).trans ((if_neg h.2.2.1).trans ((if_neg h.2.2.2.1).trans (if_neg h.2.2.2.2))))
theorem doP_mv (I : MI) (o : Nat) {w : Int} (a b d : Int) (h : w = 43 ∨ w = 45) : doP I o w a b d = va_up I (o + 1) (moveF (I (o + 1)) a.toNat) := if_pos h
theorem doP_103 (I : MI) (o : Nat) (a b d : Int) : doP I o 103 a b d = va_up I (o + 1) (gaugeF (I (o + 1)) a b d) := (if_neg (by decide)).trans (if_pos rfl)
theorem doP_109 (I : MI) (o : Nat) (a b d : Int) : doP I o 109 a b d = va_up I (o + 1) (comesF (I (o + 1)) a) := (if_neg (by decide)).trans ((if_neg (by decide)).trans (if_pos rfl))
theorem doP_116 (I : MI) (o : Nat) (a b d : Int) : doP I o 116 a b d = va_up (tstM I o (I (o + 1) (20 + 36 * a.toNat)) (I (o + 1) (21 + 36 * a.toNat)) (I (o + 1) (22 + 36 * a.toNat)) (2 * (I (o + 1) 3).toNat)) (o + 1) (certG (I (o + 1)) a.toNat) := (if_neg (by decide)).trans ((if_neg (by decide)).trans ((if_neg (by decide)).trans (if_pos rfl)))
theorem doP_x (I : MI) (o : Nat) {w : Int} (a b d : Int) (h : ¬ w = 43 ∧ ¬ w = 45 ∧ ¬ w = 103 ∧ ¬ w = 109 ∧ ¬ w = 116) : doP I o w a b d = va_up I (o + 1) (setsF (I (o + 1)) 0 a) := (if_neg (fun z => z.elim h.1 h.2.1)).trans ((if_neg h.2.2.1).trans ((if_neg h.2.2.2.1).trans (if_neg h.2.2.2.2)))
set_option maxHeartbeats 4000000 in
set_option maxRecDepth 100000 in
theorem mX7_whyNotDone (l : Launch) (G : GG) {z : Nat} {K N : Nat → Nat} {I : MI} {R : MR} {o : Nat} (hM : ShM G z K N R o) (hO : Ok (I (o + 1))) (hF : FOk (I o)) : Cod l G yX7_whyNotDone (Cond.code yX7_whyNotDone cX7_whyNotDone 1 (some .int) :: wsL_law) ⟨3, 0, 0, 65⟩ [.ref o] z K N I R (some (.int (zI (wnM I o)))) I R := by
  refine Con.of (own := RX7) (cc := cX7_whyNotDone) (maxL := 1) (ret := (some .int)) (by decide +kernel) rfl rfl (Nat.le_of_ble_eq_true rfl) (by decide) rfl ?_
  intro p e9 s mt args below meth c Q hin hQ C
  obtain ⟨ho, ⟨r0, r1, r3, r4, r5, r7, r8⟩, ⟨k1, k2, k3, k4, k5, k6, k7⟩, n1, n2, n3, n4, n5, n6, n7⟩ := id hM
  have f12 := hF 12 (by omega) (by omega)
  have f13 := hF 13 (by omega) (by omega)
  have f14 := hF 14 (by omega) (by omega)
  have f15 := hF 15 (by omega) (by omega)
  refine z_aload_n C dX7_whyNotDone_0 rfl ?_
  refine z_gI C (ci := 7) (k := 12) rfl (by decide) rfl (by decide) wl_7 wq_28_22 rfl dX7_whyNotDone_1 (by assumption) ?_
  by_cases hs4 : ¬ I o 12 = 43 ∧ ¬ I o 12 = 45 ∧ ¬ I o 12 = 103 ∧ ¬ I o 12 = 109 ∧ ¬ I o 12 = 116
  · refine z_look C (off := 107) (tgt := 111) dX7_whyNotDone_4 (by decide) (by omega) (lk_out5 (by omega)) (by decide) ?_
    refine z_iconst C dX7_whyNotDone_111 ?_
    exact z_iret2 C hQ rfl dX7_whyNotDone_112 ⟨zr (by unfold wnM; first | exact (wnP_x _ _ _ _ hs4).symm | (rw [hv]; first | exact (wnP_43 _ _ _ _).symm | exact (wnP_45 _ _ _ _).symm | exact (wnP_103 _ _ _ _).symm | exact (wnP_109 _ _ _ _).symm | exact (wnP_116 _ _ _ _).symm)), rfl, rfl, rfl, rfl, rfl⟩
  · rcases (show I o 12 = 43 ∨ I o 12 = 45 ∨ I o 12 = 103 ∨ I o 12 = 109 ∨ I o 12 = 116 by omega) with hv | hv | hv | hv | hv
    · refine z_look C (off := 61) (tgt := 65) dX7_whyNotDone_4 (by decide) (by omega) (by rw [hv]; rfl) (by decide) ?_
      refine z_aload_n C dX7_whyNotDone_65 rfl ?_
      refine z_aload_n C dX7_whyNotDone_66 rfl ?_
      refine z_gI C (ci := 7) (k := 13) rfl (by decide) rfl (by decide) wl_7 wq_28_23 rfl dX7_whyNotDone_67 (by assumption) ?_
      refine z_iconst C dX7_whyNotDone_70 ?_
      refine z_callVd C (ci := 7) rfl (by decide) (by first | assumption | exact hM.1) (mX7_whyNotMoved l G hM hO (by omega) (by first | exact Or.inl rfl | exact Or.inr rfl)) (cwV 2 C.2.2.2.2.1 gv7_126 rfl rfl rfl hd_X7_whyNotMoved ⟨Nat.le_of_ble_eq_true rfl, Nat.le_of_ble_eq_true rfl⟩) rfl rfl (Nat.le_of_ble_eq_true rfl) dX7_whyNotDone_71 ⟨Nat.zero_le _, Nat.zero_le _⟩ ?_
      exact z_iret2 C hQ rfl dX7_whyNotDone_74 ⟨zr (by unfold wnM; first | exact (wnP_x _ _ _ _ hs4).symm | (rw [hv]; first | exact (wnP_43 _ _ _ _).symm | exact (wnP_45 _ _ _ _).symm | exact (wnP_103 _ _ _ _).symm | exact (wnP_109 _ _ _ _).symm | exact (wnP_116 _ _ _ _).symm)), rfl, rfl, rfl, rfl, rfl⟩
    · refine z_look C (off := 71) (tgt := 75) dX7_whyNotDone_4 (by decide) (by omega) (by rw [hv]; rfl) (by decide) ?_
      refine z_aload_n C dX7_whyNotDone_75 rfl ?_
      refine z_aload_n C dX7_whyNotDone_76 rfl ?_
      refine z_gI C (ci := 7) (k := 13) rfl (by decide) rfl (by decide) wl_7 wq_28_23 rfl dX7_whyNotDone_77 (by assumption) ?_
      refine z_iconst C dX7_whyNotDone_80 ?_
      refine z_callVd C (ci := 7) rfl (by decide) (by first | assumption | exact hM.1) (mX7_whyNotMoved l G hM hO (by omega) (by first | exact Or.inl rfl | exact Or.inr rfl)) (cwV 2 C.2.2.2.2.1 gv7_126 rfl rfl rfl hd_X7_whyNotMoved ⟨Nat.le_of_ble_eq_true rfl, Nat.le_of_ble_eq_true rfl⟩) rfl rfl (Nat.le_of_ble_eq_true rfl) dX7_whyNotDone_81 ⟨Nat.zero_le _, Nat.zero_le _⟩ ?_
      exact z_iret2 C hQ rfl dX7_whyNotDone_84 ⟨zr (by unfold wnM; first | exact (wnP_x _ _ _ _ hs4).symm | (rw [hv]; first | exact (wnP_43 _ _ _ _).symm | exact (wnP_45 _ _ _ _).symm | exact (wnP_103 _ _ _ _).symm | exact (wnP_109 _ _ _ _).symm | exact (wnP_116 _ _ _ _).symm)), rfl, rfl, rfl, rfl, rfl⟩
    · refine z_look C (off := 90) (tgt := 94) dX7_whyNotDone_4 (by decide) (by omega) (by rw [hv]; rfl) (by decide) ?_
      refine z_aload_n C dX7_whyNotDone_94 rfl ?_
      refine z_aload_n C dX7_whyNotDone_95 rfl ?_
      refine z_gI C (ci := 7) (k := 13) rfl (by decide) rfl (by decide) wl_7 wq_28_23 rfl dX7_whyNotDone_96 (by assumption) ?_
      refine z_aload_n C dX7_whyNotDone_99 rfl ?_
      refine z_gI C (ci := 7) (k := 14) rfl (by decide) rfl (by decide) wl_7 wq_29_16 rfl dX7_whyNotDone_100 (by assumption) ?_
      refine z_aload_n C dX7_whyNotDone_103 rfl ?_
      refine z_gI C (ci := 7) (k := 15) rfl (by decide) rfl (by decide) wl_7 wq_29_17 rfl dX7_whyNotDone_104 (by assumption) ?_
      refine z_callVd C (ci := 7) rfl (by decide) (by first | assumption | exact hM.1) (mX7_whyNoGauge l G hM hO (by omega) (by omega) (by omega)) (cwV 3 C.2.2.2.2.1 gv7_136 rfl rfl rfl hd_X7_whyNoGauge ⟨Nat.le_of_ble_eq_true rfl, Nat.le_of_ble_eq_true rfl⟩) rfl rfl (Nat.le_of_ble_eq_true rfl) dX7_whyNotDone_107 ⟨Nat.zero_le _, Nat.zero_le _⟩ ?_
      exact z_iret2 C hQ rfl dX7_whyNotDone_110 ⟨zr (by unfold wnM; first | exact (wnP_x _ _ _ _ hs4).symm | (rw [hv]; first | exact (wnP_43 _ _ _ _).symm | exact (wnP_45 _ _ _ _).symm | exact (wnP_103 _ _ _ _).symm | exact (wnP_109 _ _ _ _).symm | exact (wnP_116 _ _ _ _).symm)), rfl, rfl, rfl, rfl, rfl⟩
    · refine z_look C (off := 52) (tgt := 56) dX7_whyNotDone_4 (by decide) (by omega) (by rw [hv]; rfl) (by decide) ?_
      refine z_aload_n C dX7_whyNotDone_56 rfl ?_
      refine z_aload_n C dX7_whyNotDone_57 rfl ?_
      refine z_gI C (ci := 7) (k := 13) rfl (by decide) rfl (by decide) wl_7 wq_28_23 rfl dX7_whyNotDone_58 (by assumption) ?_
      refine z_callVd C (ci := 7) rfl (by decide) (by first | assumption | exact hM.1) (mX7_whyNoRing l G hM hO (by omega)) (cwV 1 C.2.2.2.2.1 gv7_113 rfl rfl rfl hd_X7_whyNoRing ⟨Nat.le_of_ble_eq_true rfl, Nat.le_of_ble_eq_true rfl⟩) rfl rfl (Nat.le_of_ble_eq_true rfl) dX7_whyNotDone_61 ⟨Nat.zero_le _, Nat.zero_le _⟩ ?_
      exact z_iret2 C hQ rfl dX7_whyNotDone_64 ⟨zr (by unfold wnM; first | exact (wnP_x _ _ _ _ hs4).symm | (rw [hv]; first | exact (wnP_43 _ _ _ _).symm | exact (wnP_45 _ _ _ _).symm | exact (wnP_103 _ _ _ _).symm | exact (wnP_109 _ _ _ _).symm | exact (wnP_116 _ _ _ _).symm)), rfl, rfl, rfl, rfl, rfl⟩
    · refine z_look C (off := 81) (tgt := 85) dX7_whyNotDone_4 (by decide) (by omega) (by rw [hv]; rfl) (by decide) ?_
      refine z_aload_n C dX7_whyNotDone_85 rfl ?_
      refine z_aload_n C dX7_whyNotDone_86 rfl ?_
      refine z_gI C (ci := 7) (k := 13) rfl (by decide) rfl (by decide) wl_7 wq_28_23 rfl dX7_whyNotDone_87 (by assumption) ?_
      refine z_callVd C (ci := 7) rfl (by decide) (by first | assumption | exact hM.1) (mX7_whyNotCertified l G hM hO (by omega)) (cwV 1 C.2.2.2.2.1 gv7_150 rfl rfl rfl hd_X7_whyNotCertified ⟨Nat.le_of_ble_eq_true rfl, Nat.le_of_ble_eq_true rfl⟩) rfl rfl (Nat.le_of_ble_eq_true rfl) dX7_whyNotDone_90 ⟨Nat.zero_le _, Nat.zero_le _⟩ ?_
      exact z_iret2 C hQ rfl dX7_whyNotDone_93 ⟨zr (by unfold wnM; first | exact (wnP_x _ _ _ _ hs4).symm | (rw [hv]; first | exact (wnP_43 _ _ _ _).symm | exact (wnP_45 _ _ _ _).symm | exact (wnP_103 _ _ _ _).symm | exact (wnP_109 _ _ _ _).symm | exact (wnP_116 _ _ _ _).symm)), rfl, rfl, rfl, rfl, rfl⟩

set_option maxHeartbeats 4000000 in
set_option maxRecDepth 100000 in
theorem mX7_does (l : Launch) (G : GG) {z : Nat} {K N : Nat → Nat} {I : MI} {R : MR} {o : Nat} (hM : ShM G z K N R o) (hO : Ok (I (o + 1))) (hF : FOk (I o)) (hw : wnM I o = 0) (hA : ¬ (I o 12 = 43 ∨ I o 12 = 45) → ¬ I o 12 = 103 → ¬ I o 12 = 109 → ¬ I o 12 = 116 → 0 ≤ I o 13 ∧ I o 13 ≤ 9) : Cod l G yX7_does (Cond.code yX7_does cX7_does 1 none :: wsL_law) ⟨7, 0, 0, 151⟩ [.ref o] z K N I R none (doM I o) R := by
  refine Con.of (own := RX7) (cc := cX7_does) (maxL := 1) (ret := none) (by decide +kernel) rfl rfl (Nat.le_of_ble_eq_true rfl) (by decide) rfl ?_
  intro p e9 s mt args below meth c Q hin hQ C
  obtain ⟨ho, ⟨r0, r1, r3, r4, r5, r7, r8⟩, ⟨k1, k2, k3, k4, k5, k6, k7⟩, n1, n2, n3, n4, n5, n6, n7⟩ := id hM
  have f12 := hF 12 (by omega) (by omega)
  have f13 := hF 13 (by omega) (by omega)
  have f14 := hF 14 (by omega) (by omega)
  have f15 := hF 15 (by omega) (by omega)
  have h3 := hO.2.2.2.1
  have h5 := hO.2.2.2.2.2.1
  refine z_aload_n C dX7_does_0 rfl ?_
  refine z_gI C (ci := 7) (k := 12) rfl (by decide) rfl (by decide) wl_7 wq_28_22 rfl dX7_does_1 (by assumption) ?_
  by_cases hs4 : ¬ I o 12 = 43 ∧ ¬ I o 12 = 45 ∧ ¬ I o 12 = 103 ∧ ¬ I o 12 = 109 ∧ ¬ I o 12 = 116
  · refine z_look C (off := 108) (tgt := 112) dX7_does_4 (by decide) (by omega) (lk_out5 (by omega)) (by decide) ?_
    have ha9 := hA (by omega) (by omega) (by omega) (by omega)
    refine z_aload_n C dX7_does_112 rfl ?_
    refine z_iconst C dX7_does_113 ?_
    refine z_aload_n C dX7_does_114 rfl ?_
    refine z_gI C (ci := 7) (k := 13) rfl (by decide) rfl (by decide) wl_7 wq_28_23 rfl dX7_does_115 (by assumption) ?_
    refine z_callVd C (ci := 7) rfl (by decide) (by first | assumption | exact hM.1) (mX7_sets l G hM hO (sg := 0) (Or.inl ⟨rfl, ha9.1, ha9.2⟩)) (cwV 2 C.2.2.2.2.1 gv7_110 rfl rfl rfl hd_X7_sets ⟨Nat.le_of_ble_eq_true rfl, Nat.le_of_ble_eq_true rfl⟩) rfl rfl (Nat.le_of_ble_eq_true rfl) dX7_does_118 ⟨Nat.zero_le _, Nat.zero_le _⟩ ?_
    refine z_pop C dX7_does_121 rfl ?_
    exact z_vret2 C hQ rfl dX7_does_122 ⟨rfl, rfl, rfl, rfl, by unfold doM; first | (rw [doP_mv _ _ _ _ _ (show I o 12 = 43 ∨ I o 12 = 45 by omega), hnn]; done) | (rw [doP_x _ _ _ _ _ hs4]; done) | (rw [hv]; first | (rw [doP_103]; done) | (rw [doP_109]; done) | (rw [doP_116, hnn]; done)), rfl⟩
  · rcases (show I o 12 = 43 ∨ I o 12 = 45 ∨ I o 12 = 103 ∨ I o 12 = 109 ∨ I o 12 = 116 by omega) with hv | hv | hv | hv | hv
    · refine z_look C (off := 64) (tgt := 68) dX7_does_4 (by decide) (by omega) (by rw [hv]; rfl) (by decide) ?_
      have hmv : 0 ≤ I o 13 ∧ I o 13 ≤ I (o + 1) 3 - 1 := by
        have hw2 := hw
        unfold wnM at hw2
        rw [hv] at hw2
        first | rw [wnP_43] at hw2 | rw [wnP_45] at hw2
        by_cases z : 0 ≤ I o 13 ∧ I o 13 ≤ I (o + 1) 3 - 1
        · exact z
        · rw [if_neg z] at hw2; omega
      obtain ⟨n9, hn9⟩ := Int.eq_ofNat_of_zero_le (show 0 ≤ I o 13 by omega)
      have hnn : (I o 13).toNat = n9 := by omega
      refine z_aload_n C dX7_does_68 rfl ?_
      refine z_aload_n C dX7_does_69 rfl ?_
      refine z_gI C (ci := 7) (k := 13) rfl (by decide) rfl (by decide) wl_7 wq_28_23 rfl dX7_does_70 (by assumption) ?_
      rw [hn9]
      refine z_callVd C (ci := 7) rfl (by decide) (by first | assumption | exact hM.1) (mX7_isMoved l G hM hO (rg := n9) (by omega)) (cwV 1 C.2.2.2.2.1 gv7_130 rfl rfl rfl hd_X7_isMoved ⟨Nat.le_of_ble_eq_true rfl, Nat.le_of_ble_eq_true rfl⟩) rfl rfl (Nat.le_of_ble_eq_true rfl) dX7_does_73 ⟨Nat.zero_le _, Nat.zero_le _⟩ ?_
      refine z_pop C dX7_does_76 rfl ?_
      refine z_goto C (tgt := 122) dX7_does_77 (by decide) ?_
      exact z_vret2 C hQ rfl dX7_does_122 ⟨rfl, rfl, rfl, rfl, by unfold doM; first | (rw [doP_mv _ _ _ _ _ (show I o 12 = 43 ∨ I o 12 = 45 by omega), hnn]; done) | (rw [doP_x _ _ _ _ _ hs4]; done) | (rw [hv]; first | (rw [doP_103]; done) | (rw [doP_109]; done) | (rw [doP_116, hnn]; done)), rfl⟩
    · refine z_look C (off := 64) (tgt := 68) dX7_does_4 (by decide) (by omega) (by rw [hv]; rfl) (by decide) ?_
      have hmv : 0 ≤ I o 13 ∧ I o 13 ≤ I (o + 1) 3 - 1 := by
        have hw2 := hw
        unfold wnM at hw2
        rw [hv] at hw2
        first | rw [wnP_43] at hw2 | rw [wnP_45] at hw2
        by_cases z : 0 ≤ I o 13 ∧ I o 13 ≤ I (o + 1) 3 - 1
        · exact z
        · rw [if_neg z] at hw2; omega
      obtain ⟨n9, hn9⟩ := Int.eq_ofNat_of_zero_le (show 0 ≤ I o 13 by omega)
      have hnn : (I o 13).toNat = n9 := by omega
      refine z_aload_n C dX7_does_68 rfl ?_
      refine z_aload_n C dX7_does_69 rfl ?_
      refine z_gI C (ci := 7) (k := 13) rfl (by decide) rfl (by decide) wl_7 wq_28_23 rfl dX7_does_70 (by assumption) ?_
      rw [hn9]
      refine z_callVd C (ci := 7) rfl (by decide) (by first | assumption | exact hM.1) (mX7_isMoved l G hM hO (rg := n9) (by omega)) (cwV 1 C.2.2.2.2.1 gv7_130 rfl rfl rfl hd_X7_isMoved ⟨Nat.le_of_ble_eq_true rfl, Nat.le_of_ble_eq_true rfl⟩) rfl rfl (Nat.le_of_ble_eq_true rfl) dX7_does_73 ⟨Nat.zero_le _, Nat.zero_le _⟩ ?_
      refine z_pop C dX7_does_76 rfl ?_
      refine z_goto C (tgt := 122) dX7_does_77 (by decide) ?_
      exact z_vret2 C hQ rfl dX7_does_122 ⟨rfl, rfl, rfl, rfl, by unfold doM; first | (rw [doP_mv _ _ _ _ _ (show I o 12 = 43 ∨ I o 12 = 45 by omega), hnn]; done) | (rw [doP_x _ _ _ _ _ hs4]; done) | (rw [hv]; first | (rw [doP_103]; done) | (rw [doP_109]; done) | (rw [doP_116, hnn]; done)), rfl⟩
    · refine z_look C (off := 88) (tgt := 92) dX7_does_4 (by decide) (by omega) (by rw [hv]; rfl) (by decide) ?_
      have hmg : ((-99 ≤ I o 13 ∧ I o 13 ≤ 99) ∧ (0 ≤ I o 14 ∧ I o 14 ≤ 99) ∧ (1 ≤ I o 15 ∧ I o 15 ≤ 99)) ∧ ¬ I (o + 1) 5 = 6 := by
        have hw2 := hw
        unfold wnM at hw2
        rw [hv, wnP_103] at hw2
        by_cases z : (-99 ≤ I o 13 ∧ I o 13 ≤ 99) ∧ (0 ≤ I o 14 ∧ I o 14 ≤ 99) ∧ (1 ≤ I o 15 ∧ I o 15 ≤ 99)
        · rw [if_pos z] at hw2
          exact ⟨z, fun y => by rw [if_pos y] at hw2; omega⟩
        · rw [if_neg z] at hw2; omega
      refine z_aload_n C dX7_does_92 rfl ?_
      refine z_aload_n C dX7_does_93 rfl ?_
      refine z_gI C (ci := 7) (k := 13) rfl (by decide) rfl (by decide) wl_7 wq_28_23 rfl dX7_does_94 (by assumption) ?_
      refine z_aload_n C dX7_does_97 rfl ?_
      refine z_gI C (ci := 7) (k := 14) rfl (by decide) rfl (by decide) wl_7 wq_29_16 rfl dX7_does_98 (by assumption) ?_
      refine z_aload_n C dX7_does_101 rfl ?_
      refine z_gI C (ci := 7) (k := 15) rfl (by decide) rfl (by decide) wl_7 wq_29_17 rfl dX7_does_102 (by assumption) ?_
      refine z_callVd C (ci := 7) rfl (by decide) (by first | assumption | exact hM.1) (mX7_comesGauge l G hM hO (by omega) hmg.1.1 hmg.1.2.1 hmg.1.2.2) (cwV 3 C.2.2.2.2.1 gv7_140 rfl rfl rfl hd_X7_comesGauge ⟨Nat.le_of_ble_eq_true rfl, Nat.le_of_ble_eq_true rfl⟩) rfl rfl (Nat.le_of_ble_eq_true rfl) dX7_does_105 ⟨Nat.zero_le _, Nat.zero_le _⟩ ?_
      refine z_pop C dX7_does_108 rfl ?_
      refine z_goto C (tgt := 122) dX7_does_109 (by decide) ?_
      exact z_vret2 C hQ rfl dX7_does_122 ⟨rfl, rfl, rfl, rfl, by unfold doM; first | (rw [doP_mv _ _ _ _ _ (show I o 12 = 43 ∨ I o 12 = 45 by omega), hnn]; done) | (rw [doP_x _ _ _ _ _ hs4]; done) | (rw [hv]; first | (rw [doP_103]; done) | (rw [doP_109]; done) | (rw [doP_116, hnn]; done)), rfl⟩
    · refine z_look C (off := 52) (tgt := 56) dX7_does_4 (by decide) (by omega) (by rw [hv]; rfl) (by decide) ?_
      have hmr : (1 ≤ I o 13 ∧ I o 13 ≤ 9999) ∧ ¬ I (o + 1) 3 = 14 := by
        have hw2 := hw
        unfold wnM at hw2
        rw [hv, wnP_109] at hw2
        by_cases z : 1 ≤ I o 13 ∧ I o 13 ≤ 9999
        · rw [if_pos z] at hw2
          exact ⟨z, fun y => by rw [if_pos y] at hw2; omega⟩
        · rw [if_neg z] at hw2; omega
      refine z_aload_n C dX7_does_56 rfl ?_
      refine z_aload_n C dX7_does_57 rfl ?_
      refine z_gI C (ci := 7) (k := 13) rfl (by decide) rfl (by decide) wl_7 wq_28_23 rfl dX7_does_58 (by assumption) ?_
      refine z_callVd C (ci := 7) rfl (by decide) (by first | assumption | exact hM.1) (mX7_comes l G hM hO (by omega)) (cwV 1 C.2.2.2.2.1 gv7_116 rfl rfl rfl hd_X7_comes ⟨Nat.le_of_ble_eq_true rfl, Nat.le_of_ble_eq_true rfl⟩) rfl rfl (Nat.le_of_ble_eq_true rfl) dX7_does_61 ⟨Nat.zero_le _, Nat.zero_le _⟩ ?_
      refine z_pop C dX7_does_64 rfl ?_
      refine z_goto C (tgt := 122) dX7_does_65 (by decide) ?_
      exact z_vret2 C hQ rfl dX7_does_122 ⟨rfl, rfl, rfl, rfl, by unfold doM; first | (rw [doP_mv _ _ _ _ _ (show I o 12 = 43 ∨ I o 12 = 45 by omega), hnn]; done) | (rw [doP_x _ _ _ _ _ hs4]; done) | (rw [hv]; first | (rw [doP_103]; done) | (rw [doP_109]; done) | (rw [doP_116, hnn]; done)), rfl⟩
    · refine z_look C (off := 76) (tgt := 80) dX7_does_4 (by decide) (by omega) (by rw [hv]; rfl) (by decide) ?_
      have hmc : (0 ≤ I o 13 ∧ I o 13 ≤ I (o + 1) 5 - 1) ∧ ¬ I (o + 1) 3 = 0 := by
        have hw2 := hw
        unfold wnM at hw2
        rw [hv, wnP_116] at hw2
        by_cases z : 0 ≤ I o 13 ∧ I o 13 ≤ I (o + 1) 5 - 1
        · rw [if_pos z] at hw2
          exact ⟨z, fun y => by rw [if_pos y] at hw2; omega⟩
        · rw [if_neg z] at hw2; omega
      obtain ⟨n9, hn9⟩ := Int.eq_ofNat_of_zero_le (show 0 ≤ I o 13 by omega)
      have hnn : (I o 13).toNat = n9 := by omega
      refine z_aload_n C dX7_does_80 rfl ?_
      refine z_aload_n C dX7_does_81 rfl ?_
      refine z_gI C (ci := 7) (k := 13) rfl (by decide) rfl (by decide) wl_7 wq_28_23 rfl dX7_does_82 (by assumption) ?_
      rw [hn9]
      refine z_callVd C (ci := 7) rfl (by decide) (by first | assumption | exact hM.1) (mX7_certifies l G hM hO (g := n9) (by omega) (by omega)) (cwV 1 C.2.2.2.2.1 gv7_153 rfl rfl rfl hd_X7_certifies ⟨Nat.le_of_ble_eq_true rfl, Nat.le_of_ble_eq_true rfl⟩) rfl rfl (Nat.le_of_ble_eq_true rfl) dX7_does_85 ⟨Nat.zero_le _, Nat.zero_le _⟩ ?_
      refine z_pop C dX7_does_88 rfl ?_
      refine z_goto C (tgt := 122) dX7_does_89 (by decide) ?_
      exact z_vret2 C hQ rfl dX7_does_122 ⟨rfl, rfl, rfl, rfl, by unfold doM; first | (rw [doP_mv _ _ _ _ _ (show I o 12 = 43 ∨ I o 12 = 45 by omega), hnn]; done) | (rw [doP_x _ _ _ _ _ hs4]; done) | (rw [hv]; first | (rw [doP_103]; done) | (rw [doP_109]; done) | (rw [doP_116, hnn]; done)), rfl⟩

/-- one order of a pad that has no fault -/
theorem co_step {J : MI} {o : Nat} (hT : TOk (J (o + 5)) (J o)) (hF : FOk (J o)) (hlt : J o 11 < J o 6) (hq : J o 11 = J o 6 ∨ ∃ q2 : Nat, (ffL (J (o + 5)) q2 (J o)).1 = -6) :
    (cR J o (o + 5) = J (o + 5) ∧ cR J o (o + 1) = J (o + 1) ∧ cR J o o 6 = J o 6) ∧ TOk (J (o + 5)) (cR J o o) ∧ FOk (cR J o o) ∧ J o 11 < cR J o o 11 ∧ (cR J o o 11 = J o 6 ∨ ∃ q2 : Nat, (ffL (J (o + 5)) q2 (cR J o o)).1 = -6) ∧
    (¬ (cR J o o 12 = 43 ∨ cR J o o 12 = 45) → ¬ cR J o o 12 = 103 → ¬ cR J o o 12 = 109 → ¬ cR J o o 12 = 116 → 0 ≤ cR J o o 13 ∧ cR J o o 13 ≤ 9) := by
  have g1 := hT.ro
  have g2 := Fwd.ro (J (o + 5)) (J o)
  have e0 : cR J o o = nxF (J (o + 5)) (roF (J (o + 5)) (J o)) 59 := va_up_s _ _ _
  have e11 : nxF (J (o + 5)) (roF (J (o + 5)) (J o)) 59 11 = roF (J (o + 5)) (J o) 11 + nxB (J (o + 5)) (roF (J (o + 5)) (J o)) 59 := by unfold nxF atS; rw [st1_s]
  have hk := Kp.nx (J (o + 5)) (roF (J (o + 5)) (J o)) 59
  have hfw := Fwd.nx (J (o + 5)) (roF (J (o + 5)) (J o)) 59
  obtain ⟨q2, hq2⟩ : ∃ q2 : Nat, (ffL (J (o + 5)) q2 (J o)).1 = -6 := by
    rcases hq with h | h
    · omega
    · exact h
  cases q2 with
  | zero => exact absurd hq2 (by show ¬ (0 : Int) = -6; omega)
  | succ q2 =>
    rw [ffL_s] at hq2
    have hr : ¬ roB (J (o + 5)) (J o) = 0 := fun z => by
      rw [if_pos z] at hq2
      have := g1.2.2.1
      have h9 : roF (J (o + 5)) (J o) 11 = -6 := hq2
      omega
    rw [if_neg hr] at hq2
    obtain ⟨a1, a2⟩ := ro_a hr
    have hgo : J o 11 < roF (J (o + 5)) (J o) 11 := by
      have h12 := ro2_11 (J (o + 5)) (J o)
      unfold roF
      unfold roB at hr
      by_cases h1 : isNo (chF (J (o + 5)) (J o) (J o 11))
      · rw [if_pos h1, st1_n (by omega)]
        have := (Fwd.tn (J (o + 5)) (ro2 (J (o + 5)) (J o))).2.1
        omega
      · rw [if_neg h1] at hr ⊢
        by_cases h2 : chF (J (o + 5)) (J o) (J o 11) = 97
        · rw [if_pos h2, st1_n (by omega)]
          have := (Fwd.td (J (o + 5)) (ro2 (J (o + 5)) (J o))).2.1
          omega
        · rw [if_neg h2] at hr ⊢
          by_cases h3 : chF (J (o + 5)) (J o) (J o 11) = 103
          · rw [if_pos h3]
            have := (Fwd.rg (J (o + 5)) (ro2 (J (o + 5)) (J o))).2.1
            omega
          · rw [if_neg h3] at hr
            exact absurd rfl hr
    have hnx := nx_01 (J (o + 5)) (roF (J (o + 5)) (J o)) 59
    refine ⟨⟨va_up_n (by omega), va_up_n (by omega), by rw [e0, hfw.1, g2.1]⟩, by rw [e0]; exact g1.nx (by omega), by rw [e0]; exact (hF.ro hT).nx 59, by rw [e0, e11]; omega, ?_, ?_⟩
    · rw [e0]
      by_cases hx : roF (J (o + 5)) (J o) 11 = roF (J (o + 5)) (J o) 6
      · left
        have hc : nxB (J (o + 5)) (roF (J (o + 5)) (J o)) 59 = 0 := by
          unfold nxB chF
          rw [if_neg (by omega)]
          rfl
        rw [e11, hc, hx, g2.1]; omega
      · right
        rw [if_neg hx] at hq2
        by_cases hy : nxB (J (o + 5)) (roF (J (o + 5)) (J o)) 59 = 0
        · rw [if_pos hy] at hq2
          have h9 : nxF (J (o + 5)) (roF (J (o + 5)) (J o)) 59 11 = -6 := hq2
          have := g1.2.2.1
          omega
        · rw [if_neg hy] at hq2
          exact ⟨q2, hq2⟩
    · rw [e0, hk 12 (by omega), hk 13 (by omega)]
      intro h1 h2 h3 h4
      rcases a2 with h | h | h
      · exfalso
        rcases h with h | h | h | h <;> omega
      · exact h.2
      · exact absurd h h2
theorem ffL_ok {P : Nat → Int} : ∀ (n : Nat) (f : Nat → Int), TOk P f → FOk f → (-6 ≤ (ffL P n f).1 ∧ (ffL P n f).1 ≤ 80) ∧ FOk (ffL P n f).2 ∧ ∀ j : Nat, j < 11 → (ffL P n f).2 j = f j
  | 0, f, _, hF => ⟨⟨by show (-6 : Int) ≤ 0; omega, by show (0 : Int) ≤ 80; omega⟩, hF, fun _ _ => rfl⟩
  | n + 1, f, h, hF => by
    have g1 := h.ro
    have g2 := Fwd.ro P f
    have g3 := g1.nx (w := 59) (by omega)
    have g4 := Fwd.nx P (roF P f) 59
    have t1 := g1.1
    have t2 := g1.2.2
    have t3 := g3.1
    have t4 := g3.2.2
    rw [ffL_s]
    split
    · exact ⟨⟨by show -6 ≤ roF P f 11; omega, by show roF P f 11 ≤ 80; omega⟩, hF.ro h, g2.2.2⟩
    · split
      · exact ⟨⟨by show (-6 : Int) ≤ -6; omega, by show (-6 : Int) ≤ 80; omega⟩, hF.ro h, g2.2.2⟩
      · split
        · exact ⟨⟨by show -6 ≤ nxF P (roF P f) 59 11; omega, by show nxF P (roF P f) 59 11 ≤ 80; omega⟩, (hF.ro h).nx 59, (g2.trans g4).2.2⟩
        · obtain ⟨a, b, c⟩ := ffL_ok n _ g3 ((hF.ro h).nx 59)
          exact ⟨a, b, fun j hj => (c j hj).trans ((g2.trans g4).2.2 j hj)⟩
theorem TOk.z {P f : Nat → Int} (h : TOk P f) : TOk P (st1 f 11 0) := by
  have := h.1
  exact ⟨by rw [st1_n (by omega)]; exact h.1, h.2.1, by rw [st1_s, st1_n (by omega)]; omega⟩
theorem ffV_ok {P f : Nat → Int} (h : TOk P f) (hF : FOk f) : (-6 ≤ ffV P f ∧ ffV P f ≤ 80) ∧ FOk (ffF P f) ∧ ∀ j : Nat, j < 11 → ffF P f j = f j := by
  obtain ⟨a, b, c⟩ := ffL_ok 82 (st1 f 11 0) h.z (hF.kp fun j hj => st1_n (by omega))
  exact ⟨a, b, fun j hj => (c j hj).trans (st1_n (by omega))⟩
theorem coJ_ok {I : MI} {o : Nat} (hO : Ok (I (o + 1))) (hT : TOk (I (o + 5)) (I o)) (hF : FOk (I o)) (hff : ffV (I (o + 5)) (I o) = -6) :
    (coJ I o o 6 = I o 6 ∧ coJ I o o 11 = 0) ∧ coJ I o (o + 5) = I (o + 5) ∧ TOk (coJ I o (o + 5)) (coJ I o o) ∧ FOk (coJ I o o) ∧ Ok (coJ I o (o + 1)) ∧ (coJ I o o 11 = coJ I o o 6 ∨ ∃ q2 : Nat, (ffL (coJ I o (o + 5)) q2 (coJ I o o)).1 = -6) := by
  obtain ⟨a, b, c⟩ := ffV_ok hT hF
  have h6 : coJ I o o 6 = I o 6 := by
    unfold coJ
    rw [u2_k (by omega), recM_o _ _ _ (by omega), va_up_s, c 6 (by omega)]
  have h11 : coJ I o o 11 = 0 := u2_s _ _ _ _
  have h5 : coJ I o (o + 5) = I (o + 5) := by
    unfold coJ
    rw [u2_row (by omega), recM_k _ _ _ (by omega) (by omega), va_up_n (by omega)]
  have h1 : coJ I o (o + 1) = I (o + 1) := by
    unfold coJ
    rw [u2_row (by omega), recM_1, va_up_n (by omega)]
  refine ⟨⟨h6, h11⟩, h5, ?_, ?_, by rw [h1]; exact hO, Or.inr ⟨82, ?_⟩⟩
  · rw [h5]
    have := hT.1
    exact ⟨by rw [h6]; exact hT.1, hT.2.1, by rw [h6, h11]; omega⟩
  · intro j j1 j2
    unfold coJ
    rw [u2_k (by omega), recM_o _ _ _ (by omega), va_up_s]
    exact b j j1 j2
  · rw [h5]
    exact (Sm.e_ffL 82 _ (st1 (I o) 11 0) ⟨by rw [h6, st1_n (by omega)], by rw [h11, st1_s]⟩).trans hff
set_option maxHeartbeats 4000000 in
set_option maxRecDepth 100000 in
theorem mX7_carryOut (l : Launch) (G : GG) {z : Nat} {K N : Nat → Nat} {I : MI} {R : MR} {o : Nat} (hM : ShM G z K N R o) (hO : Ok (I (o + 1))) (hR : 0 ≤ I o 2 ∧ I o 2 ≤ 6) (hT : TOk (I (o + 5)) (I o)) (hF : FOk (I o)) : Cod l G yX7_carryOut (Cond.code yX7_carryOut cX7_carryOut 3 (some .int) :: wsL_law) ⟨8, 0, 0, 171⟩ [.ref o] z K N I R (some (.int (zI (if ffV (I (o + 5)) (I o) = -6 then ((coL o 82 (coJ I o) 0).1 : Int) else -3)))) (if ffV (I (o + 5)) (I o) = -6 then u2 (coL o 82 (coJ I o) 0).2 o 6 0 else va_up I o (ffF (I (o + 5)) (I o))) R := by
  refine Con.of (own := RX7) (cc := cX7_carryOut) (maxL := 3) (ret := (some .int)) (by decide +kernel) rfl rfl (Nat.le_of_ble_eq_true rfl) (by decide) rfl ?_
  intro p e9 s mt args below meth c Q hin hQ C
  obtain ⟨ho, ⟨r0, r1, r3, r4, r5, r7, r8⟩, ⟨k1, k2, k3, k4, k5, k6, k7⟩, n1, n2, n3, n4, n5, n6, n7⟩ := id hM
  obtain ⟨a1, a2, a3⟩ := ffV_ok hT hF
  have hend : ffV (I (o + 5)) (I o) = -6 → ∀ (n : Nat) (J : MI), n ≤ 90 → (n, J) = coL o 82 (coJ I o) 0 → Zq p l e9 ⟨8, 0, 0, 171⟩ s mt args below meth c G 3 Q 0 0 z K N J R 25 [(0, .ref o), (1, .int (zI (n : Int))), (2, .int (zI 0))] [] := by
    intro hff n J hn9 he
    refine z_iload_n C dX7_carryOut_25 rfl ?_
    refine z_if_eq C (tgt := 79) dX7_carryOut_26 (by decide) (by first | omega | exact b2i_r) (fun h26 => ?_) (fun h26 => ?_)
    · refine z_aload_n C dX7_carryOut_79 rfl ?_
      refine z_iconst C dX7_carryOut_80 ?_
      refine z_pI C (ci := 7) (k := 6) rfl (by decide) rfl (by decide) tyX7_ok nmX7 wl_7 wq_22_5 rfl (Or.inl rfl) dX7_carryOut_81 (by assumption) ?_
      refine z_iload_n C dX7_carryOut_84 rfl ?_
      exact z_iret2 C hQ rfl dX7_carryOut_85 ⟨zr (by rw [if_pos hff]; exact congrArg (fun x : Nat × MI => ((x.1 : Nat) : Int)) he), rfl, rfl, rfl, by rw [if_pos hff]; exact congrArg (fun x : Nat × MI => u2 x.2 o 6 0) he, rfl⟩
    · exfalso; omega
  have hloop : ffV (I (o + 5)) (I o) = -6 → ∀ (q : Nat) (n : Nat) (J : MI), J (o + 5) = I (o + 5) ∧ TOk (J (o + 5)) (J o) ∧ FOk (J o) ∧ Ok (J (o + 1)) ∧ (J o 11 = J o 6 ∨ ∃ q2 : Nat, (ffL (J (o + 5)) q2 (J o)).1 = -6) → J o 6 - J o 11 < q → n + q ≤ 90 → coL o (q + 1) J n = coL o 82 (coJ I o) 0 → Zq p l e9 ⟨8, 0, 0, 171⟩ s mt args below meth c G 3 Q 0 0 z K N J R 25 [(0, .ref o), (1, .int (zI (n : Int))), (2, .int (zI 1))] [] := by
    intro hff q
    induction q with
    | zero =>
      intro n J ⟨c1, c2, c3, c4, c5⟩ hq hn9 he
      have c8 := c2.2.2
      exact absurd hq (by omega)
    | succ q ih =>
      intro n J ⟨c1, c2, c3, c4, c5⟩ hq hn9 he
      have c6 := c2.1
      have c8 := c2.2.2
      refine z_iload_n C dX7_carryOut_25 rfl ?_
      refine z_if_eq C (tgt := 79) dX7_carryOut_26 (by decide) (by first | omega | exact b2i_r) (fun h26 => ?_) (fun h26 => ?_)
      · rw [coL_s, if_neg (by omega)] at he
        refine z_aload_n C dX7_carryOut_79 rfl ?_
        refine z_iconst C dX7_carryOut_80 ?_
        refine z_pI C (ci := 7) (k := 6) rfl (by decide) rfl (by decide) tyX7_ok nmX7 wl_7 wq_22_5 rfl (Or.inl rfl) dX7_carryOut_81 (by assumption) ?_
        refine z_iload_n C dX7_carryOut_84 rfl ?_
        exact z_iret2 C hQ rfl dX7_carryOut_85 ⟨zr (by rw [if_pos hff]; exact congrArg (fun x : Nat × MI => ((x.1 : Nat) : Int)) he), rfl, rfl, rfl, by rw [if_pos hff]; exact congrArg (fun x : Nat × MI => u2 x.2 o 6 0) he, rfl⟩
      · refine z_aload_n C dX7_carryOut_29 rfl ?_
        refine z_gI C (ci := 7) (k := 11) rfl (by decide) rfl (by decide) wl_7 wq_28_17 rfl dX7_carryOut_30 (by assumption) ?_
        refine z_aload_n C dX7_carryOut_33 rfl ?_
        refine z_gI C (ci := 7) (k := 6) rfl (by decide) rfl (by decide) wl_7 wq_22_5 rfl dX7_carryOut_34 (by assumption) ?_
        refine z_icmp_ge C (tgt := 79) dX7_carryOut_37 (by decide) (by first | omega | exact b2i_r) (by first | omega | exact b2i_r) (fun h37 => ?_) (fun h37 => ?_)
        · rw [coL_s, if_neg (by omega)] at he
          refine z_aload_n C dX7_carryOut_79 rfl ?_
          refine z_iconst C dX7_carryOut_80 ?_
          refine z_pI C (ci := 7) (k := 6) rfl (by decide) rfl (by decide) tyX7_ok nmX7 wl_7 wq_22_5 rfl (Or.inl rfl) dX7_carryOut_81 (by assumption) ?_
          refine z_iload_n C dX7_carryOut_84 rfl ?_
          exact z_iret2 C hQ rfl dX7_carryOut_85 ⟨zr (by rw [if_pos hff]; exact congrArg (fun x : Nat × MI => ((x.1 : Nat) : Int)) he), rfl, rfl, rfl, by rw [if_pos hff]; exact congrArg (fun x : Nat × MI => u2 x.2 o 6 0) he, rfl⟩
        · obtain ⟨⟨d1, d2, d3⟩, d4, d5, d6, d7, d8⟩ := co_step (o := o) c2 c3 (show J o 11 < J o 6 by omega) c5
          rw [coL_s, if_pos (show J o 11 < J o 6 by omega)] at he
          refine z_mem (va_upS J o).symm rfl ?_
          refine z_aload_n C dX7_carryOut_40 rfl ?_
          refine z_callVd C (ci := 7) rfl (by decide) (by first | assumption | exact hM.1) (mX7_readsOrder l G (I := J) hM c2) (cwV 0 C.2.2.2.2.1 gv7_202 rfl rfl rfl hd_X7_readsOrder ⟨Nat.le_of_ble_eq_true rfl, Nat.le_of_ble_eq_true rfl⟩) rfl rfl (Nat.le_of_ble_eq_true rfl) dX7_carryOut_41 ⟨Nat.zero_le _, Nat.zero_le _⟩ ?_
          refine z_pop C dX7_carryOut_44 rfl ?_
          refine z_aload_n C dX7_carryOut_45 rfl ?_
          refine z_bipush C dX7_carryOut_46 (by decide) ?_
          refine z_callVd C (ci := 7) rfl (by decide) (by first | assumption | exact hM.1) (mX7_isNext l G (I := J) hM c2.ro (w := 59) (by omega)) (cwV 1 C.2.2.2.2.1 gv7_180 rfl rfl rfl hd_X7_isNext ⟨Nat.le_of_ble_eq_true rfl, Nat.le_of_ble_eq_true rfl⟩) rfl rfl (Nat.le_of_ble_eq_true rfl) dX7_carryOut_48 ⟨Nat.zero_le _, Nat.zero_le _⟩ ?_
          refine z_mem (I' := cR J o) rfl rfl ?_
          refine z_pop C dX7_carryOut_51 rfl ?_
          refine z_aload_n C dX7_carryOut_52 rfl ?_
          refine z_callVd C (ci := 7) rfl (by decide) (by first | assumption | exact hM.1) (mX7_whyNotDone l G hM (by rw [d2]; exact c4) d5) (cwV 0 C.2.2.2.2.1 gv7_208 rfl rfl rfl hd_X7_whyNotDone ⟨Nat.le_of_ble_eq_true rfl, Nat.le_of_ble_eq_true rfl⟩) rfl rfl (Nat.le_of_ble_eq_true rfl) dX7_carryOut_53 ⟨Nat.zero_le _, Nat.zero_le _⟩ ?_
          have hwr : -5 ≤ wnM (cR J o) o ∧ wnM (cR J o) o ≤ 0 := wnP_rng _ _ _ _ _
          refine z_if_ne C (tgt := 63) dX7_carryOut_56 (by decide) (by first | omega | exact b2i_r) (fun h56 => ?_) (fun h56 => ?_)
          · rw [if_neg h56] at he
            refine z_iconst C dX7_carryOut_63 ?_
            refine z_istore_n C dX7_carryOut_64 (by decide) rfl ?_
            refine z_iload_n C dX7_carryOut_65 rfl ?_
            refine z_if_eq C (tgt := 25) dX7_carryOut_66 (by decide) (by first | omega | exact b2i_r) (fun h66 => ?_) (fun h66 => ?_)
            · first
              | (exfalso; omega)
              | exact hend hff n _ (by omega) he
              | (rw [show (n : Int) + 1 = ((n + 1 : Nat) : Int) by omega]
                 refine ih (n + 1) (doM (cR J o) o) ⟨by rw [e3 _ (by omega) (by omega) (by omega) (by omega), d1, c1], ?_, ?_, e1, ?_⟩ ?_ (by omega) he
                 · have f1 := d4
                   rw [e3 _ (by omega) (by omega) (by omega) (by omega), d1]
                   exact ⟨by rw [e2 6 (by omega) (by omega)]; exact f1.1, f1.2.1, by rw [e2 6 (by omega) (by omega), e2 11 (by omega) (by omega)]; exact f1.2.2⟩
                 · intro j j1 j2
                   rw [e2 j (by omega) (by omega)]
                   exact d5 j j1 j2
                 · rw [e2 6 (by omega) (by omega), e2 11 (by omega) (by omega), e3 _ (by omega) (by omega) (by omega) (by omega), d1, d3]
                   rcases d7 with h | ⟨q2, h⟩
                   · exact Or.inl h
                   · exact Or.inr ⟨q2, (Sm.e_ffL q2 _ _ ⟨e2 6 (by omega) (by omega), e2 11 (by omega) (by omega)⟩).trans h⟩
                 · rw [e2 6 (by omega) (by omega), e2 11 (by omega) (by omega), d3]; omega)
            · have h56b : wnM (cR J o) o = 0 := by first | exact h56 | (exfalso; omega)
              have hO9 : Ok (cR J o (o + 1)) := by rw [d2]; exact c4
              obtain ⟨e1, e2, e3⟩ := doM_keep hO9 h56b d8
              refine z_aload_n C dX7_carryOut_69 rfl ?_
              refine z_callVd C (ci := 7) rfl (by decide) (by first | assumption | exact hM.1) (mX7_does l G hM hO9 d5 h56b d8) (cwV 0 C.2.2.2.2.1 gv7_211 rfl rfl rfl hd_X7_does ⟨Nat.le_of_ble_eq_true rfl, Nat.le_of_ble_eq_true rfl⟩) rfl rfl (Nat.le_of_ble_eq_true rfl) dX7_carryOut_70 ⟨Nat.zero_le _, Nat.zero_le _⟩ ?_
              refine z_iinc C dX7_carryOut_73 rfl (by decide) rfl ?_
              refine z_goto C (tgt := 25) dX7_carryOut_76 (by decide) ?_
              first
              | (exfalso; omega)
              | exact hend hff n _ (by omega) he
              | (rw [show (n : Int) + 1 = ((n + 1 : Nat) : Int) by omega]
                 refine ih (n + 1) (doM (cR J o) o) ⟨by rw [e3 _ (by omega) (by omega) (by omega) (by omega), d1, c1], ?_, ?_, e1, ?_⟩ ?_ (by omega) he
                 · have f1 := d4
                   rw [e3 _ (by omega) (by omega) (by omega) (by omega), d1]
                   exact ⟨by rw [e2 6 (by omega) (by omega)]; exact f1.1, f1.2.1, by rw [e2 6 (by omega) (by omega), e2 11 (by omega) (by omega)]; exact f1.2.2⟩
                 · intro j j1 j2
                   rw [e2 j (by omega) (by omega)]
                   exact d5 j j1 j2
                 · rw [e2 6 (by omega) (by omega), e2 11 (by omega) (by omega), e3 _ (by omega) (by omega) (by omega) (by omega), d1, d3]
                   rcases d7 with h | ⟨q2, h⟩
                   · exact Or.inl h
                   · exact Or.inr ⟨q2, (Sm.e_ffL q2 _ _ ⟨e2 6 (by omega) (by omega), e2 11 (by omega) (by omega)⟩).trans h⟩
                 · rw [e2 6 (by omega) (by omega), e2 11 (by omega) (by omega), d3]; omega)
          · rw [if_pos h56] at he
            refine z_iconst C dX7_carryOut_59 ?_
            refine z_goto C (tgt := 64) dX7_carryOut_60 (by decide) ?_
            refine z_istore_n C dX7_carryOut_64 (by decide) rfl ?_
            refine z_iload_n C dX7_carryOut_65 rfl ?_
            refine z_if_eq C (tgt := 25) dX7_carryOut_66 (by decide) (by first | omega | exact b2i_r) (fun h66 => ?_) (fun h66 => ?_)
            · first
              | (exfalso; omega)
              | exact hend hff n _ (by omega) he
              | (rw [show (n : Int) + 1 = ((n + 1 : Nat) : Int) by omega]
                 refine ih (n + 1) (doM (cR J o) o) ⟨by rw [e3 _ (by omega) (by omega) (by omega) (by omega), d1, c1], ?_, ?_, e1, ?_⟩ ?_ (by omega) he
                 · have f1 := d4
                   rw [e3 _ (by omega) (by omega) (by omega) (by omega), d1]
                   exact ⟨by rw [e2 6 (by omega) (by omega)]; exact f1.1, f1.2.1, by rw [e2 6 (by omega) (by omega), e2 11 (by omega) (by omega)]; exact f1.2.2⟩
                 · intro j j1 j2
                   rw [e2 j (by omega) (by omega)]
                   exact d5 j j1 j2
                 · rw [e2 6 (by omega) (by omega), e2 11 (by omega) (by omega), e3 _ (by omega) (by omega) (by omega) (by omega), d1, d3]
                   rcases d7 with h | ⟨q2, h⟩
                   · exact Or.inl h
                   · exact Or.inr ⟨q2, (Sm.e_ffL q2 _ _ ⟨e2 6 (by omega) (by omega), e2 11 (by omega) (by omega)⟩).trans h⟩
                 · rw [e2 6 (by omega) (by omega), e2 11 (by omega) (by omega), d3]; omega)
            · have h56b : wnM (cR J o) o = 0 := by first | exact h56 | (exfalso; omega)
              have hO9 : Ok (cR J o (o + 1)) := by rw [d2]; exact c4
              obtain ⟨e1, e2, e3⟩ := doM_keep hO9 h56b d8
              refine z_aload_n C dX7_carryOut_69 rfl ?_
              refine z_callVd C (ci := 7) rfl (by decide) (by first | assumption | exact hM.1) (mX7_does l G hM hO9 d5 h56b d8) (cwV 0 C.2.2.2.2.1 gv7_211 rfl rfl rfl hd_X7_does ⟨Nat.le_of_ble_eq_true rfl, Nat.le_of_ble_eq_true rfl⟩) rfl rfl (Nat.le_of_ble_eq_true rfl) dX7_carryOut_70 ⟨Nat.zero_le _, Nat.zero_le _⟩ ?_
              refine z_iinc C dX7_carryOut_73 rfl (by decide) rfl ?_
              refine z_goto C (tgt := 25) dX7_carryOut_76 (by decide) ?_
              first
              | (exfalso; omega)
              | exact hend hff n _ (by omega) he
              | (rw [show (n : Int) + 1 = ((n + 1 : Nat) : Int) by omega]
                 refine ih (n + 1) (doM (cR J o) o) ⟨by rw [e3 _ (by omega) (by omega) (by omega) (by omega), d1, c1], ?_, ?_, e1, ?_⟩ ?_ (by omega) he
                 · have f1 := d4
                   rw [e3 _ (by omega) (by omega) (by omega) (by omega), d1]
                   exact ⟨by rw [e2 6 (by omega) (by omega)]; exact f1.1, f1.2.1, by rw [e2 6 (by omega) (by omega), e2 11 (by omega) (by omega)]; exact f1.2.2⟩
                 · intro j j1 j2
                   rw [e2 j (by omega) (by omega)]
                   exact d5 j j1 j2
                 · rw [e2 6 (by omega) (by omega), e2 11 (by omega) (by omega), e3 _ (by omega) (by omega) (by omega) (by omega), d1, d3]
                   rcases d7 with h | ⟨q2, h⟩
                   · exact Or.inl h
                   · exact Or.inr ⟨q2, (Sm.e_ffL q2 _ _ ⟨e2 6 (by omega) (by omega), e2 11 (by omega) (by omega)⟩).trans h⟩
                 · rw [e2 6 (by omega) (by omega), e2 11 (by omega) (by omega), d3]; omega)
  refine z_aload_n C dX7_carryOut_0 rfl ?_
  refine z_mem (va_upS I o).symm rfl ?_
  refine z_callVd C (ci := 7) rfl (by decide) (by first | assumption | exact hM.1) (mX7_findFault l G (I := I) hM hT) (cwV 0 C.2.2.2.2.1 gv7_205 rfl rfl rfl hd_X7_findFault ⟨Nat.le_of_ble_eq_true rfl, Nat.le_of_ble_eq_true rfl⟩) rfl rfl (Nat.le_of_ble_eq_true rfl) dX7_carryOut_1 ⟨Nat.zero_le _, Nat.zero_le _⟩ ?_
  refine z_bipush C dX7_carryOut_4 (by decide) ?_
  refine z_icmp_eq C (tgt := 12) dX7_carryOut_6 (by decide) (by first | omega | exact b2i_r) (by first | omega | exact b2i_r) (fun h6 => ?_) (fun h6 => ?_)
  · refine z_aload_n C dX7_carryOut_12 rfl ?_
    refine z_callVd C (ci := 7) rfl (by decide) (by first | assumption | exact hM.1) (mX7_record l G hM (by rw [va_up_s, a3 2 (by omega)]; exact hR)) (cwV 0 C.2.2.2.2.1 gv7_107 rfl rfl rfl hd_X7_record ⟨Nat.le_of_ble_eq_true rfl, Nat.le_of_ble_eq_true rfl⟩) rfl rfl (Nat.le_of_ble_eq_true rfl) dX7_carryOut_13 ⟨Nat.zero_le _, Nat.zero_le _⟩ ?_
    refine z_iconst C dX7_carryOut_16 ?_
    refine z_istore_n C dX7_carryOut_17 (by decide) rfl ?_
    refine z_aload_n C dX7_carryOut_18 rfl ?_
    refine z_iconst C dX7_carryOut_19 ?_
    refine z_pI C (ci := 7) (k := 11) rfl (by decide) rfl (by decide) tyX7_ok nmX7 wl_7 wq_28_17 rfl (Or.inl rfl) dX7_carryOut_20 (by assumption) ?_
    refine z_iconst C dX7_carryOut_23 ?_
    refine z_istore_n C dX7_carryOut_24 (by decide) rfl ?_
    obtain ⟨⟨b1, b2⟩, b3, b4, b5, b6, b7⟩ := coJ_ok hO hT hF h6
    exact hloop h6 81 0 (coJ I o) ⟨b3, b4, b5, b6, b7⟩ (by rw [b1, b2]; have := hT.1; omega) (by omega) rfl
  · refine z_bipush C dX7_carryOut_9 (by decide) ?_
    exact z_iret2 C hQ rfl dX7_carryOut_11 ⟨zr (if_neg h6).symm, rfl, rfl, rfl, (if_neg h6).symm, rfl⟩

