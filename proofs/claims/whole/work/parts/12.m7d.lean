def cntA (f : Nat → Int) (pl rc wh : Int) : Int := if wh = 0 then f 3 else if wh = 1 then f 5 else if wh = 2 then f 4 else if wh = 3 then massA f (f 4) else if wh = 4 then wgt (massA f (f 4)) (f 0) else if wh = 5 then prsA f (f 4) else if wh = 6 then certN f (f 5).toNat else if 7 ≤ wh ∧ wh ≤ 9 then f (wh - 7).toNat else if wh = 10 then pl else if wh = 11 then rc else -2
def ofG (f : Nat → Int) (g : Nat) (wh : Int) : Int := if wh = 0 then f (20 + 36 * g) + 100 else if wh = 1 then f (21 + 36 * g) else if wh = 2 then f (22 + 36 * g) else if wh = 3 then f (23 + 36 * g) else if wh = 4 then rnd (f (23 + 36 * g)) (f (22 + 36 * g)) * f (22 + 36 * g) else if wh = 5 then b2i (f (24 + 36 * g) = 1) else if wh = 6 then (if f (24 + 36 * g) = 1 then f (25 + 36 * g) else -6) else if wh = 7 then (if f (24 + 36 * g) = 1 then f (26 + 36 * g) else -6) else -2
theorem recM_k (I : MI) (o k : Nat) (h : k ≠ 0) (h2 : k ≠ 2) : recM I o (o + k) = I (o + k) := by
  unfold recM
  rw [u2_row (by omega), va_up_n (by omega)]
theorem recM_o (I : MI) (o k : Nat) (h : k ≠ 2) : recM I o o k = I o k := by
  unfold recM
  rw [u2_k h, va_up_n (by omega)]
theorem recM_h (I : MI) (o : Nat) : recM I o (o + 2) = recH (I (o + 1)) (I (o + 2)) (I o 2) := by
  unfold recM
  rw [u2_row (by omega), va_up_s]
theorem recM_2 (I : MI) (o : Nat) : recM I o o 2 = recN (I o 2) + 1 := by
  unfold recM
  rw [u2_s]
set_option maxHeartbeats 4000000 in
set_option maxRecDepth 100000 in
theorem mX7_count (l : Launch) (G : GG) {z : Nat} {K N : Nat → Nat} {I : MI} {R : MR} {o : Nat} (hM : ShM G z K N R o) (hO : Ok (I (o + 1))) {wh : Int} (hwh : -2147483648 ≤ wh ∧ wh < 2147483648) : Cod l G yX7_count (Cond.code yX7_count cX7_count 2 (some .int) :: wsL_law) ⟨4, 0, 0, 86⟩ [.ref o, .int (zI wh)] z K N I R (some (.int (zI (cntA (I (o + 1)) (I o 6) (I o 2) wh)))) I R := by
  refine Con.of (own := RX7) (cc := cX7_count) (maxL := 2) (ret := (some .int)) (by decide +kernel) rfl rfl (Nat.le_of_ble_eq_true rfl) (by decide) rfl ?_
  intro p e9 s mt args below meth c Q hin hQ C
  obtain ⟨ho, ⟨r0, r1, r3, r4, r5, r7, r8⟩, ⟨k1, k2, k3, k4, k5, k6, k7⟩, n1, n2, n3, n4, n5, n6, n7⟩ := id hM
  have h4 := Ok4 hO
  refine z_iload_n C dX7_count_0 rfl ?_
  by_cases hs1 : wh < 0 ∨ 11 < wh
  · refine z_tout C (tgt := 153) dX7_count_1 (by omega) hs1 (by decide) ?_
    refine z_bipush C dX7_count_153 (by decide) ?_
    exact z_iret2 C hQ rfl dX7_count_155 ⟨zr (by first | (subst hv; rfl) | (unfold cntA; (repeat' split) <;> omega)), rfl, rfl, rfl, rfl, rfl⟩
  · rcases (show wh = 0 ∨ wh = 1 ∨ wh = 2 ∨ wh = 3 ∨ wh = 4 ∨ wh = 5 ∨ wh = 6 ∨ wh = 7 ∨ wh = 8 ∨ wh = 9 ∨ wh = 10 ∨ wh = 11 by omega) with hv | hv | hv | hv | hv | hv | hv | hv | hv | hv | hv | hv
    · refine z_tin C (tgt := 64) 0 dX7_count_1 hv (by decide) (by decide) (by decide) rfl (by decide) ?_
      refine z_aload_n C dX7_count_64 rfl ?_
      refine z_gR C (ci := 7) (k := 0) rfl (by decide) rfl (by decide) wl_7 wq_4_3 (by decide) dX7_count_65 (by assumption) (by assumption) ?_
      refine z_iconst C dX7_count_68 ?_
      refine z_ialdk C (3) dX7_count_69 (by assumption) (by first | rfl | omega) (by omega) (by omega) ?_
      exact z_iret2 C hQ rfl dX7_count_70 ⟨zr (by first | (subst hv; rfl) | (unfold cntA; (repeat' split) <;> omega)), rfl, rfl, rfl, rfl, rfl⟩
    · refine z_tin C (tgt := 71) 1 dX7_count_1 hv (by decide) (by decide) (by decide) rfl (by decide) ?_
      refine z_aload_n C dX7_count_71 rfl ?_
      refine z_gR C (ci := 7) (k := 0) rfl (by decide) rfl (by decide) wl_7 wq_4_3 (by decide) dX7_count_72 (by assumption) (by assumption) ?_
      refine z_iconst C dX7_count_75 ?_
      refine z_ialdk C (5) dX7_count_76 (by assumption) (by first | rfl | omega) (by omega) (by omega) ?_
      exact z_iret2 C hQ rfl dX7_count_77 ⟨zr (by first | (subst hv; rfl) | (unfold cntA; (repeat' split) <;> omega)), rfl, rfl, rfl, rfl, rfl⟩
    · refine z_tin C (tgt := 78) 2 dX7_count_1 hv (by decide) (by decide) (by decide) rfl (by decide) ?_
      refine z_aload_n C dX7_count_78 rfl ?_
      refine z_gR C (ci := 7) (k := 0) rfl (by decide) rfl (by decide) wl_7 wq_4_3 (by decide) dX7_count_79 (by assumption) (by assumption) ?_
      refine z_iconst C dX7_count_82 ?_
      refine z_ialdk C (4) dX7_count_83 (by assumption) (by first | rfl | omega) (by omega) (by omega) ?_
      exact z_iret2 C hQ rfl dX7_count_84 ⟨zr (by first | (subst hv; rfl) | (unfold cntA; (repeat' split) <;> omega)), rfl, rfl, rfl, rfl, rfl⟩
    · refine z_tin C (tgt := 85) 3 dX7_count_1 hv (by decide) (by decide) (by decide) rfl (by decide) ?_
      refine z_aload_n C dX7_count_85 rfl ?_
      refine z_aload_n C dX7_count_86 rfl ?_
      refine z_gR C (ci := 7) (k := 0) rfl (by decide) rfl (by decide) wl_7 wq_4_3 (by decide) dX7_count_87 (by assumption) (by assumption) ?_
      refine z_iconst C dX7_count_90 ?_
      refine z_ialdk C (4) dX7_count_91 (by assumption) (by first | rfl | omega) (by omega) (by omega) ?_
      refine z_callVd C (ci := 7) rfl (by decide) (by first | assumption | exact hM.1) (mX7_massOf l G hM hO (by omega)) (cwV 1 C.2.2.2.2.1 gv7_51 rfl rfl rfl hd_X7_massOf ⟨Nat.le_of_ble_eq_true rfl, Nat.le_of_ble_eq_true rfl⟩) rfl rfl (Nat.le_of_ble_eq_true rfl) dX7_count_92 ⟨Nat.zero_le _, Nat.zero_le _⟩ ?_
      exact z_iret2 C hQ rfl dX7_count_95 ⟨zr (by first | (subst hv; rfl) | (unfold cntA; (repeat' split) <;> omega)), rfl, rfl, rfl, rfl, rfl⟩
    · refine z_tin C (tgt := 96) 4 dX7_count_1 hv (by decide) (by decide) (by decide) rfl (by decide) ?_
      refine z_aload_n C dX7_count_96 rfl ?_
      refine z_aload_n C dX7_count_97 rfl ?_
      refine z_aload_n C dX7_count_98 rfl ?_
      refine z_gR C (ci := 7) (k := 0) rfl (by decide) rfl (by decide) wl_7 wq_4_3 (by decide) dX7_count_99 (by assumption) (by assumption) ?_
      refine z_iconst C dX7_count_102 ?_
      refine z_ialdk C (4) dX7_count_103 (by assumption) (by first | rfl | omega) (by omega) (by omega) ?_
      refine z_callVd C (ci := 7) rfl (by decide) (by first | assumption | exact hM.1) (mX7_massOf l G hM hO (by omega)) (cwV 1 C.2.2.2.2.1 gv7_51 rfl rfl rfl hd_X7_massOf ⟨Nat.le_of_ble_eq_true rfl, Nat.le_of_ble_eq_true rfl⟩) rfl rfl (Nat.le_of_ble_eq_true rfl) dX7_count_104 ⟨Nat.zero_le _, Nat.zero_le _⟩ ?_
      refine z_aload_n C dX7_count_107 rfl ?_
      refine z_gR C (ci := 7) (k := 0) rfl (by decide) rfl (by decide) wl_7 wq_4_3 (by decide) dX7_count_108 (by assumption) (by assumption) ?_
      refine z_iconst C dX7_count_111 ?_
      refine z_ialdk C (0) dX7_count_112 (by assumption) (by first | rfl | omega) (by omega) (by omega) ?_
      refine z_callVd C (ci := 7) rfl (by decide) (by first | assumption | exact hM.1) (mX7_weightOf l G hM (massA_rng hO _) hO.1) (cwV 2 C.2.2.2.2.1 gv7_48 rfl rfl rfl hd_X7_weightOf ⟨Nat.le_of_ble_eq_true rfl, Nat.le_of_ble_eq_true rfl⟩) rfl rfl (Nat.le_of_ble_eq_true rfl) dX7_count_113 ⟨Nat.zero_le _, Nat.zero_le _⟩ ?_
      exact z_iret2 C hQ rfl dX7_count_116 ⟨zr (by first | (subst hv; rfl) | (unfold cntA; (repeat' split) <;> omega)), rfl, rfl, rfl, rfl, rfl⟩
    · refine z_tin C (tgt := 117) 5 dX7_count_1 hv (by decide) (by decide) (by decide) rfl (by decide) ?_
      refine z_aload_n C dX7_count_117 rfl ?_
      refine z_aload_n C dX7_count_118 rfl ?_
      refine z_gR C (ci := 7) (k := 0) rfl (by decide) rfl (by decide) wl_7 wq_4_3 (by decide) dX7_count_119 (by assumption) (by assumption) ?_
      refine z_iconst C dX7_count_122 ?_
      refine z_ialdk C (4) dX7_count_123 (by assumption) (by first | rfl | omega) (by omega) (by omega) ?_
      refine z_callVd C (ci := 7) rfl (by decide) (by first | assumption | exact hM.1) (mX7_pressureOf l G hM hO (by omega)) (cwV 1 C.2.2.2.2.1 gv7_67 rfl rfl rfl hd_X7_pressureOf ⟨Nat.le_of_ble_eq_true rfl, Nat.le_of_ble_eq_true rfl⟩) rfl rfl (Nat.le_of_ble_eq_true rfl) dX7_count_124 ⟨Nat.zero_le _, Nat.zero_le _⟩ ?_
      exact z_iret2 C hQ rfl dX7_count_127 ⟨zr (by first | (subst hv; rfl) | (unfold cntA; (repeat' split) <;> omega)), rfl, rfl, rfl, rfl, rfl⟩
    · refine z_tin C (tgt := 128) 6 dX7_count_1 hv (by decide) (by decide) (by decide) rfl (by decide) ?_
      refine z_aload_n C dX7_count_128 rfl ?_
      refine z_callVd C (ci := 7) rfl (by decide) (by first | assumption | exact hM.1) (mX7_certificates l G hM hO) (cwV 0 C.2.2.2.2.1 gv7_159 rfl rfl rfl hd_X7_certificates ⟨Nat.le_of_ble_eq_true rfl, Nat.le_of_ble_eq_true rfl⟩) rfl rfl (Nat.le_of_ble_eq_true rfl) dX7_count_129 ⟨Nat.zero_le _, Nat.zero_le _⟩ ?_
      exact z_iret2 C hQ rfl dX7_count_132 ⟨zr (by first | (subst hv; rfl) | (unfold cntA; (repeat' split) <;> omega)), rfl, rfl, rfl, rfl, rfl⟩
    · refine z_tin C (tgt := 133) 7 dX7_count_1 hv (by decide) (by decide) (by decide) rfl (by decide) ?_
      refine z_aload_n C dX7_count_133 rfl ?_
      refine z_gR C (ci := 7) (k := 0) rfl (by decide) rfl (by decide) wl_7 wq_4_3 (by decide) dX7_count_134 (by assumption) (by assumption) ?_
      refine z_iload_n C dX7_count_137 rfl ?_
      refine z_bipush C dX7_count_138 (by decide) ?_
      refine z_isub C dX7_count_140 ?_
      refine z_ialdk C ((wh - 7).toNat) dX7_count_141 (by assumption) (by first | rfl | omega) (by omega) (by omega) ?_
      exact z_iret2 C hQ rfl dX7_count_142 ⟨zr (by first | (subst hv; rfl) | (unfold cntA; (repeat' split) <;> omega)), rfl, rfl, rfl, rfl, rfl⟩
    · refine z_tin C (tgt := 133) 8 dX7_count_1 hv (by decide) (by decide) (by decide) rfl (by decide) ?_
      refine z_aload_n C dX7_count_133 rfl ?_
      refine z_gR C (ci := 7) (k := 0) rfl (by decide) rfl (by decide) wl_7 wq_4_3 (by decide) dX7_count_134 (by assumption) (by assumption) ?_
      refine z_iload_n C dX7_count_137 rfl ?_
      refine z_bipush C dX7_count_138 (by decide) ?_
      refine z_isub C dX7_count_140 ?_
      refine z_ialdk C ((wh - 7).toNat) dX7_count_141 (by assumption) (by first | rfl | omega) (by omega) (by omega) ?_
      exact z_iret2 C hQ rfl dX7_count_142 ⟨zr (by first | (subst hv; rfl) | (unfold cntA; (repeat' split) <;> omega)), rfl, rfl, rfl, rfl, rfl⟩
    · refine z_tin C (tgt := 133) 9 dX7_count_1 hv (by decide) (by decide) (by decide) rfl (by decide) ?_
      refine z_aload_n C dX7_count_133 rfl ?_
      refine z_gR C (ci := 7) (k := 0) rfl (by decide) rfl (by decide) wl_7 wq_4_3 (by decide) dX7_count_134 (by assumption) (by assumption) ?_
      refine z_iload_n C dX7_count_137 rfl ?_
      refine z_bipush C dX7_count_138 (by decide) ?_
      refine z_isub C dX7_count_140 ?_
      refine z_ialdk C ((wh - 7).toNat) dX7_count_141 (by assumption) (by first | rfl | omega) (by omega) (by omega) ?_
      exact z_iret2 C hQ rfl dX7_count_142 ⟨zr (by first | (subst hv; rfl) | (unfold cntA; (repeat' split) <;> omega)), rfl, rfl, rfl, rfl, rfl⟩
    · refine z_tin C (tgt := 143) 10 dX7_count_1 hv (by decide) (by decide) (by decide) rfl (by decide) ?_
      refine z_aload_n C dX7_count_143 rfl ?_
      refine z_gI C (ci := 7) (k := 6) rfl (by decide) rfl (by decide) wl_7 wq_22_5 rfl dX7_count_144 (by assumption) ?_
      exact z_iret2 C hQ rfl dX7_count_147 ⟨zr (by first | (subst hv; rfl) | (unfold cntA; (repeat' split) <;> omega)), rfl, rfl, rfl, rfl, rfl⟩
    · refine z_tin C (tgt := 148) 11 dX7_count_1 hv (by decide) (by decide) (by decide) rfl (by decide) ?_
      refine z_aload_n C dX7_count_148 rfl ?_
      refine z_gI C (ci := 7) (k := 2) rfl (by decide) rfl (by decide) wl_7 wq_8_6 rfl dX7_count_149 (by assumption) ?_
      exact z_iret2 C hQ rfl dX7_count_152 ⟨zr (by first | (subst hv; rfl) | (unfold cntA; (repeat' split) <;> omega)), rfl, rfl, rfl, rfl, rfl⟩

set_option maxHeartbeats 4000000 in
set_option maxRecDepth 100000 in
theorem mX7_ofGauge (l : Launch) (G : GG) {z : Nat} {K N : Nat → Nat} {I : MI} {R : MR} {o : Nat} (hM : ShM G z K N R o) (hO : Ok (I (o + 1))) {gg wh : Int} (hgg : -2147483648 ≤ gg ∧ gg < 2147483648) (hwh : -2147483648 ≤ wh ∧ wh < 2147483648) : Cod l G yX7_ofGauge (Cond.code yX7_ofGauge cX7_ofGauge 4 (some .int) :: wsL_law) ⟨2, 0, 0, 43⟩ [.ref o, .int (zI gg), .int (zI wh)] z K N I R (some (.int (zI (if 0 ≤ gg ∧ gg ≤ I (o + 1) 5 - 1 then ofG (I (o + 1)) gg.toNat wh else -1)))) I R := by
  refine Con.of (own := RX7) (cc := cX7_ofGauge) (maxL := 4) (ret := (some .int)) (by decide +kernel) rfl rfl (Nat.le_of_ble_eq_true rfl) (by decide) rfl ?_
  intro p e9 s mt args below meth c Q hin hQ C
  have h5 := hO.2.2.2.2.2.1
  refine z_aload_n C dX7_ofGauge_0 rfl ?_
  refine z_iload_n C dX7_ofGauge_1 rfl ?_
  refine z_callVd C (ci := 7) rfl (by decide) (by first | assumption | exact hM.1) (mX7_isGauge l G hM hO hgg) (cwV 1 C.2.2.2.2.1 gv7_143 rfl rfl rfl hd_X7_isGauge ⟨Nat.le_of_ble_eq_true rfl, Nat.le_of_ble_eq_true rfl⟩) rfl rfl (Nat.le_of_ble_eq_true rfl) dX7_ofGauge_2 ⟨Nat.zero_le _, Nat.zero_le _⟩ ?_
  refine z_if_ne C (tgt := 10) dX7_ofGauge_5 (by decide) (by first | omega | exact b2i_r) (fun h5 => ?_) (fun h5 => ?_)
  · have hb := b2i_1.mp h5
    obtain ⟨n9, rfl⟩ := Int.eq_ofNat_of_zero_le (show 0 ≤ gg by omega)
    obtain ⟨c1, c2, c3, c4, c5⟩ := hO.2.2.2.2.2.2.2 n9 (by omega)
    refine z_aload_n C dX7_ofGauge_10 rfl ?_
    refine z_iload_n C dX7_ofGauge_11 rfl ?_
    refine z_iconst C dX7_ofGauge_12 ?_
    refine z_callVd C (ci := 7) rfl (by decide) (by first | assumption | exact hM.1) (mX7_part l G hM (by omega) (by omega)) (cwV 2 C.2.2.2.2.1 gv7_64 rfl rfl rfl hd_X7_part ⟨Nat.le_of_ble_eq_true rfl, Nat.le_of_ble_eq_true rfl⟩) rfl rfl (Nat.le_of_ble_eq_true rfl) dX7_ofGauge_13 ⟨Nat.zero_le _, Nat.zero_le _⟩ ?_
    rw [show (20 + 36 * (n9 : Int) + 4).toNat = 24 + 36 * n9 by omega]
    refine z_iconst C dX7_ofGauge_16 ?_
    refine z_icmp_ne C (tgt := 24) dX7_ofGauge_17 (by decide) (by first | omega | exact b2i_r) (by first | omega | exact b2i_r) (fun h17 => ?_) (fun h17 => ?_)
    · refine z_iconst C dX7_ofGauge_24 ?_
      refine z_istore_n C dX7_ofGauge_25 (by decide) rfl ?_
      refine z_iload_n C dX7_ofGauge_26 rfl ?_
      by_cases hs27 : wh < 0 ∨ 7 < wh
      · refine z_tout C (tgt := 162) dX7_ofGauge_27 (by omega) hs27 (by decide) ?_
        refine z_bipush C dX7_ofGauge_162 (by decide) ?_
        exact z_iret2 C hQ rfl dX7_ofGauge_164 ⟨zr (by first | rw [if_neg g4] | (rw [if_pos hb]; subst hv; rfl) | (rw [if_pos hb]; subst hv; first | exact (b2i_t h17).symm | exact (b2i_f h17).symm | exact (if_pos h17).symm | exact (if_neg h17).symm | omega) | (rw [if_pos hb]; unfold ofG; (repeat' split) <;> omega)), rfl, rfl, rfl, rfl, rfl⟩
      · rcases (show wh = 0 ∨ wh = 1 ∨ wh = 2 ∨ wh = 3 ∨ wh = 4 ∨ wh = 5 ∨ wh = 6 ∨ wh = 7 by omega) with hv | hv | hv | hv | hv | hv | hv | hv
        · refine z_tin C (tgt := 72) 0 dX7_ofGauge_27 hv (by decide) (by decide) (by decide) rfl (by decide) ?_
          refine z_aload_n C dX7_ofGauge_72 rfl ?_
          refine z_iload_n C dX7_ofGauge_73 rfl ?_
          refine z_iconst C dX7_ofGauge_74 ?_
          refine z_callVd C (ci := 7) rfl (by decide) (by first | assumption | exact hM.1) (mX7_part l G hM (by omega) (by omega)) (cwV 2 C.2.2.2.2.1 gv7_64 rfl rfl rfl hd_X7_part ⟨Nat.le_of_ble_eq_true rfl, Nat.le_of_ble_eq_true rfl⟩) rfl rfl (Nat.le_of_ble_eq_true rfl) dX7_ofGauge_75 ⟨Nat.zero_le _, Nat.zero_le _⟩ ?_
          rw [show (20 + 36 * (n9 : Int) + 0).toNat = 20 + 36 * n9 by omega]
          refine z_bipush C dX7_ofGauge_78 (by decide) ?_
          refine z_iadd C dX7_ofGauge_80 ?_
          exact z_iret2 C hQ rfl dX7_ofGauge_81 ⟨zr (by first | rw [if_neg g4] | (rw [if_pos hb]; subst hv; rfl) | (rw [if_pos hb]; subst hv; first | exact (b2i_t h17).symm | exact (b2i_f h17).symm | exact (if_pos h17).symm | exact (if_neg h17).symm | omega) | (rw [if_pos hb]; unfold ofG; (repeat' split) <;> omega)), rfl, rfl, rfl, rfl, rfl⟩
        · refine z_tin C (tgt := 82) 1 dX7_ofGauge_27 hv (by decide) (by decide) (by decide) rfl (by decide) ?_
          refine z_aload_n C dX7_ofGauge_82 rfl ?_
          refine z_iload_n C dX7_ofGauge_83 rfl ?_
          refine z_iconst C dX7_ofGauge_84 ?_
          refine z_callVd C (ci := 7) rfl (by decide) (by first | assumption | exact hM.1) (mX7_part l G hM (by omega) (by omega)) (cwV 2 C.2.2.2.2.1 gv7_64 rfl rfl rfl hd_X7_part ⟨Nat.le_of_ble_eq_true rfl, Nat.le_of_ble_eq_true rfl⟩) rfl rfl (Nat.le_of_ble_eq_true rfl) dX7_ofGauge_85 ⟨Nat.zero_le _, Nat.zero_le _⟩ ?_
          rw [show (20 + 36 * (n9 : Int) + 1).toNat = 21 + 36 * n9 by omega]
          exact z_iret2 C hQ rfl dX7_ofGauge_88 ⟨zr (by first | rw [if_neg g4] | (rw [if_pos hb]; subst hv; rfl) | (rw [if_pos hb]; subst hv; first | exact (b2i_t h17).symm | exact (b2i_f h17).symm | exact (if_pos h17).symm | exact (if_neg h17).symm | omega) | (rw [if_pos hb]; unfold ofG; (repeat' split) <;> omega)), rfl, rfl, rfl, rfl, rfl⟩
        · refine z_tin C (tgt := 89) 2 dX7_ofGauge_27 hv (by decide) (by decide) (by decide) rfl (by decide) ?_
          refine z_aload_n C dX7_ofGauge_89 rfl ?_
          refine z_iload_n C dX7_ofGauge_90 rfl ?_
          refine z_iconst C dX7_ofGauge_91 ?_
          refine z_callVd C (ci := 7) rfl (by decide) (by first | assumption | exact hM.1) (mX7_part l G hM (by omega) (by omega)) (cwV 2 C.2.2.2.2.1 gv7_64 rfl rfl rfl hd_X7_part ⟨Nat.le_of_ble_eq_true rfl, Nat.le_of_ble_eq_true rfl⟩) rfl rfl (Nat.le_of_ble_eq_true rfl) dX7_ofGauge_92 ⟨Nat.zero_le _, Nat.zero_le _⟩ ?_
          rw [show (20 + 36 * (n9 : Int) + 2).toNat = 22 + 36 * n9 by omega]
          exact z_iret2 C hQ rfl dX7_ofGauge_95 ⟨zr (by first | rw [if_neg g4] | (rw [if_pos hb]; subst hv; rfl) | (rw [if_pos hb]; subst hv; first | exact (b2i_t h17).symm | exact (b2i_f h17).symm | exact (if_pos h17).symm | exact (if_neg h17).symm | omega) | (rw [if_pos hb]; unfold ofG; (repeat' split) <;> omega)), rfl, rfl, rfl, rfl, rfl⟩
        · refine z_tin C (tgt := 96) 3 dX7_ofGauge_27 hv (by decide) (by decide) (by decide) rfl (by decide) ?_
          refine z_aload_n C dX7_ofGauge_96 rfl ?_
          refine z_iload_n C dX7_ofGauge_97 rfl ?_
          refine z_iconst C dX7_ofGauge_98 ?_
          refine z_callVd C (ci := 7) rfl (by decide) (by first | assumption | exact hM.1) (mX7_part l G hM (by omega) (by omega)) (cwV 2 C.2.2.2.2.1 gv7_64 rfl rfl rfl hd_X7_part ⟨Nat.le_of_ble_eq_true rfl, Nat.le_of_ble_eq_true rfl⟩) rfl rfl (Nat.le_of_ble_eq_true rfl) dX7_ofGauge_99 ⟨Nat.zero_le _, Nat.zero_le _⟩ ?_
          rw [show (20 + 36 * (n9 : Int) + 3).toNat = 23 + 36 * n9 by omega]
          exact z_iret2 C hQ rfl dX7_ofGauge_102 ⟨zr (by first | rw [if_neg g4] | (rw [if_pos hb]; subst hv; rfl) | (rw [if_pos hb]; subst hv; first | exact (b2i_t h17).symm | exact (b2i_f h17).symm | exact (if_pos h17).symm | exact (if_neg h17).symm | omega) | (rw [if_pos hb]; unfold ofG; (repeat' split) <;> omega)), rfl, rfl, rfl, rfl, rfl⟩
        · refine z_tin C (tgt := 103) 4 dX7_ofGauge_27 hv (by decide) (by decide) (by decide) rfl (by decide) ?_
          refine z_aload_n C dX7_ofGauge_103 rfl ?_
          refine z_iload_n C dX7_ofGauge_104 rfl ?_
          refine z_iconst C dX7_ofGauge_105 ?_
          refine z_callVd C (ci := 7) rfl (by decide) (by first | assumption | exact hM.1) (mX7_part l G hM (by omega) (by omega)) (cwV 2 C.2.2.2.2.1 gv7_64 rfl rfl rfl hd_X7_part ⟨Nat.le_of_ble_eq_true rfl, Nat.le_of_ble_eq_true rfl⟩) rfl rfl (Nat.le_of_ble_eq_true rfl) dX7_ofGauge_106 ⟨Nat.zero_le _, Nat.zero_le _⟩ ?_
          rw [show (20 + 36 * (n9 : Int) + 3).toNat = 23 + 36 * n9 by omega]
          refine z_aload_n C dX7_ofGauge_109 rfl ?_
          refine z_iload_n C dX7_ofGauge_110 rfl ?_
          refine z_iconst C dX7_ofGauge_111 ?_
          refine z_callVd C (ci := 7) rfl (by decide) (by first | assumption | exact hM.1) (mX7_part l G hM (by omega) (by omega)) (cwV 2 C.2.2.2.2.1 gv7_64 rfl rfl rfl hd_X7_part ⟨Nat.le_of_ble_eq_true rfl, Nat.le_of_ble_eq_true rfl⟩) rfl rfl (Nat.le_of_ble_eq_true rfl) dX7_ofGauge_112 ⟨Nat.zero_le _, Nat.zero_le _⟩ ?_
          rw [show (20 + 36 * (n9 : Int) + 2).toNat = 22 + 36 * n9 by omega]
          refine z_callSd C (mX7_reads l G c4 c3) (va_cwS 2 C.2.2.2.2.1 gv7_94 rfl rfl rfl hs_X7_reads ⟨Nat.le_of_ble_eq_true rfl, Nat.le_of_ble_eq_true rfl⟩) rfl rfl (Nat.le_of_ble_eq_true rfl) dX7_ofGauge_115 ⟨Nat.zero_le _, Nat.zero_le _⟩ ?_
          exact z_iret2 C hQ rfl dX7_ofGauge_118 ⟨zr (by first | rw [if_neg g4] | (rw [if_pos hb]; subst hv; rfl) | (rw [if_pos hb]; subst hv; first | exact (b2i_t h17).symm | exact (b2i_f h17).symm | exact (if_pos h17).symm | exact (if_neg h17).symm | omega) | (rw [if_pos hb]; unfold ofG; (repeat' split) <;> omega)), rfl, rfl, rfl, rfl, rfl⟩
        · refine z_tin C (tgt := 119) 5 dX7_ofGauge_27 hv (by decide) (by decide) (by decide) rfl (by decide) ?_
          refine z_iload_n C dX7_ofGauge_119 rfl ?_
          refine z_if_eq C (tgt := 127) dX7_ofGauge_120 (by decide) (by first | omega | exact b2i_r) (fun h120 => ?_) (fun h120 => ?_)
          · refine z_iconst C dX7_ofGauge_127 ?_
            exact z_iret2 C hQ rfl dX7_ofGauge_128 ⟨zr (by first | rw [if_neg g4] | (rw [if_pos hb]; subst hv; rfl) | (rw [if_pos hb]; subst hv; first | exact (b2i_t h17).symm | exact (b2i_f h17).symm | exact (if_pos h17).symm | exact (if_neg h17).symm | omega) | (rw [if_pos hb]; unfold ofG; (repeat' split) <;> omega)), rfl, rfl, rfl, rfl, rfl⟩
          · refine z_iconst C dX7_ofGauge_123 ?_
            refine z_goto C (tgt := 128) dX7_ofGauge_124 (by decide) ?_
            exact z_iret2 C hQ rfl dX7_ofGauge_128 ⟨zr (by first | rw [if_neg g4] | (rw [if_pos hb]; subst hv; rfl) | (rw [if_pos hb]; subst hv; first | exact (b2i_t h17).symm | exact (b2i_f h17).symm | exact (if_pos h17).symm | exact (if_neg h17).symm | omega) | (rw [if_pos hb]; unfold ofG; (repeat' split) <;> omega)), rfl, rfl, rfl, rfl, rfl⟩
        · refine z_tin C (tgt := 129) 6 dX7_ofGauge_27 hv (by decide) (by decide) (by decide) rfl (by decide) ?_
          refine z_iload_n C dX7_ofGauge_129 rfl ?_
          refine z_if_eq C (tgt := 142) dX7_ofGauge_130 (by decide) (by first | omega | exact b2i_r) (fun h130 => ?_) (fun h130 => ?_)
          · refine z_bipush C dX7_ofGauge_142 (by decide) ?_
            exact z_iret2 C hQ rfl dX7_ofGauge_144 ⟨zr (by first | rw [if_neg g4] | (rw [if_pos hb]; subst hv; rfl) | (rw [if_pos hb]; subst hv; first | exact (b2i_t h17).symm | exact (b2i_f h17).symm | exact (if_pos h17).symm | exact (if_neg h17).symm | omega) | (rw [if_pos hb]; unfold ofG; (repeat' split) <;> omega)), rfl, rfl, rfl, rfl, rfl⟩
          · refine z_aload_n C dX7_ofGauge_133 rfl ?_
            refine z_iload_n C dX7_ofGauge_134 rfl ?_
            refine z_iconst C dX7_ofGauge_135 ?_
            refine z_callVd C (ci := 7) rfl (by decide) (by first | assumption | exact hM.1) (mX7_part l G hM (by omega) (by omega)) (cwV 2 C.2.2.2.2.1 gv7_64 rfl rfl rfl hd_X7_part ⟨Nat.le_of_ble_eq_true rfl, Nat.le_of_ble_eq_true rfl⟩) rfl rfl (Nat.le_of_ble_eq_true rfl) dX7_ofGauge_136 ⟨Nat.zero_le _, Nat.zero_le _⟩ ?_
            rw [show (20 + 36 * (n9 : Int) + 5).toNat = 25 + 36 * n9 by omega]
            refine z_goto C (tgt := 144) dX7_ofGauge_139 (by decide) ?_
            exact z_iret2 C hQ rfl dX7_ofGauge_144 ⟨zr (by first | rw [if_neg g4] | (rw [if_pos hb]; subst hv; rfl) | (rw [if_pos hb]; subst hv; first | exact (b2i_t h17).symm | exact (b2i_f h17).symm | exact (if_pos h17).symm | exact (if_neg h17).symm | omega) | (rw [if_pos hb]; unfold ofG; (repeat' split) <;> omega)), rfl, rfl, rfl, rfl, rfl⟩
        · refine z_tin C (tgt := 145) 7 dX7_ofGauge_27 hv (by decide) (by decide) (by decide) rfl (by decide) ?_
          refine z_iload_n C dX7_ofGauge_145 rfl ?_
          refine z_if_eq C (tgt := 159) dX7_ofGauge_146 (by decide) (by first | omega | exact b2i_r) (fun h146 => ?_) (fun h146 => ?_)
          · refine z_bipush C dX7_ofGauge_159 (by decide) ?_
            exact z_iret2 C hQ rfl dX7_ofGauge_161 ⟨zr (by first | rw [if_neg g4] | (rw [if_pos hb]; subst hv; rfl) | (rw [if_pos hb]; subst hv; first | exact (b2i_t h17).symm | exact (b2i_f h17).symm | exact (if_pos h17).symm | exact (if_neg h17).symm | omega) | (rw [if_pos hb]; unfold ofG; (repeat' split) <;> omega)), rfl, rfl, rfl, rfl, rfl⟩
          · refine z_aload_n C dX7_ofGauge_149 rfl ?_
            refine z_iload_n C dX7_ofGauge_150 rfl ?_
            refine z_bipush C dX7_ofGauge_151 (by decide) ?_
            refine z_callVd C (ci := 7) rfl (by decide) (by first | assumption | exact hM.1) (mX7_part l G hM (by omega) (by omega)) (cwV 2 C.2.2.2.2.1 gv7_64 rfl rfl rfl hd_X7_part ⟨Nat.le_of_ble_eq_true rfl, Nat.le_of_ble_eq_true rfl⟩) rfl rfl (Nat.le_of_ble_eq_true rfl) dX7_ofGauge_153 ⟨Nat.zero_le _, Nat.zero_le _⟩ ?_
            rw [show (20 + 36 * (n9 : Int) + 6).toNat = 26 + 36 * n9 by omega]
            refine z_goto C (tgt := 161) dX7_ofGauge_156 (by decide) ?_
            exact z_iret2 C hQ rfl dX7_ofGauge_161 ⟨zr (by first | rw [if_neg g4] | (rw [if_pos hb]; subst hv; rfl) | (rw [if_pos hb]; subst hv; first | exact (b2i_t h17).symm | exact (b2i_f h17).symm | exact (if_pos h17).symm | exact (if_neg h17).symm | omega) | (rw [if_pos hb]; unfold ofG; (repeat' split) <;> omega)), rfl, rfl, rfl, rfl, rfl⟩
    · refine z_iconst C dX7_ofGauge_20 ?_
      refine z_goto C (tgt := 25) dX7_ofGauge_21 (by decide) ?_
      refine z_istore_n C dX7_ofGauge_25 (by decide) rfl ?_
      refine z_iload_n C dX7_ofGauge_26 rfl ?_
      by_cases hs27 : wh < 0 ∨ 7 < wh
      · refine z_tout C (tgt := 162) dX7_ofGauge_27 (by omega) hs27 (by decide) ?_
        refine z_bipush C dX7_ofGauge_162 (by decide) ?_
        exact z_iret2 C hQ rfl dX7_ofGauge_164 ⟨zr (by first | rw [if_neg g4] | (rw [if_pos hb]; subst hv; rfl) | (rw [if_pos hb]; subst hv; first | exact (b2i_t h17).symm | exact (b2i_f h17).symm | exact (if_pos h17).symm | exact (if_neg h17).symm | omega) | (rw [if_pos hb]; unfold ofG; (repeat' split) <;> omega)), rfl, rfl, rfl, rfl, rfl⟩
      · rcases (show wh = 0 ∨ wh = 1 ∨ wh = 2 ∨ wh = 3 ∨ wh = 4 ∨ wh = 5 ∨ wh = 6 ∨ wh = 7 by omega) with hv | hv | hv | hv | hv | hv | hv | hv
        · refine z_tin C (tgt := 72) 0 dX7_ofGauge_27 hv (by decide) (by decide) (by decide) rfl (by decide) ?_
          refine z_aload_n C dX7_ofGauge_72 rfl ?_
          refine z_iload_n C dX7_ofGauge_73 rfl ?_
          refine z_iconst C dX7_ofGauge_74 ?_
          refine z_callVd C (ci := 7) rfl (by decide) (by first | assumption | exact hM.1) (mX7_part l G hM (by omega) (by omega)) (cwV 2 C.2.2.2.2.1 gv7_64 rfl rfl rfl hd_X7_part ⟨Nat.le_of_ble_eq_true rfl, Nat.le_of_ble_eq_true rfl⟩) rfl rfl (Nat.le_of_ble_eq_true rfl) dX7_ofGauge_75 ⟨Nat.zero_le _, Nat.zero_le _⟩ ?_
          rw [show (20 + 36 * (n9 : Int) + 0).toNat = 20 + 36 * n9 by omega]
          refine z_bipush C dX7_ofGauge_78 (by decide) ?_
          refine z_iadd C dX7_ofGauge_80 ?_
          exact z_iret2 C hQ rfl dX7_ofGauge_81 ⟨zr (by first | rw [if_neg g4] | (rw [if_pos hb]; subst hv; rfl) | (rw [if_pos hb]; subst hv; first | exact (b2i_t h17).symm | exact (b2i_f h17).symm | exact (if_pos h17).symm | exact (if_neg h17).symm | omega) | (rw [if_pos hb]; unfold ofG; (repeat' split) <;> omega)), rfl, rfl, rfl, rfl, rfl⟩
        · refine z_tin C (tgt := 82) 1 dX7_ofGauge_27 hv (by decide) (by decide) (by decide) rfl (by decide) ?_
          refine z_aload_n C dX7_ofGauge_82 rfl ?_
          refine z_iload_n C dX7_ofGauge_83 rfl ?_
          refine z_iconst C dX7_ofGauge_84 ?_
          refine z_callVd C (ci := 7) rfl (by decide) (by first | assumption | exact hM.1) (mX7_part l G hM (by omega) (by omega)) (cwV 2 C.2.2.2.2.1 gv7_64 rfl rfl rfl hd_X7_part ⟨Nat.le_of_ble_eq_true rfl, Nat.le_of_ble_eq_true rfl⟩) rfl rfl (Nat.le_of_ble_eq_true rfl) dX7_ofGauge_85 ⟨Nat.zero_le _, Nat.zero_le _⟩ ?_
          rw [show (20 + 36 * (n9 : Int) + 1).toNat = 21 + 36 * n9 by omega]
          exact z_iret2 C hQ rfl dX7_ofGauge_88 ⟨zr (by first | rw [if_neg g4] | (rw [if_pos hb]; subst hv; rfl) | (rw [if_pos hb]; subst hv; first | exact (b2i_t h17).symm | exact (b2i_f h17).symm | exact (if_pos h17).symm | exact (if_neg h17).symm | omega) | (rw [if_pos hb]; unfold ofG; (repeat' split) <;> omega)), rfl, rfl, rfl, rfl, rfl⟩
        · refine z_tin C (tgt := 89) 2 dX7_ofGauge_27 hv (by decide) (by decide) (by decide) rfl (by decide) ?_
          refine z_aload_n C dX7_ofGauge_89 rfl ?_
          refine z_iload_n C dX7_ofGauge_90 rfl ?_
          refine z_iconst C dX7_ofGauge_91 ?_
          refine z_callVd C (ci := 7) rfl (by decide) (by first | assumption | exact hM.1) (mX7_part l G hM (by omega) (by omega)) (cwV 2 C.2.2.2.2.1 gv7_64 rfl rfl rfl hd_X7_part ⟨Nat.le_of_ble_eq_true rfl, Nat.le_of_ble_eq_true rfl⟩) rfl rfl (Nat.le_of_ble_eq_true rfl) dX7_ofGauge_92 ⟨Nat.zero_le _, Nat.zero_le _⟩ ?_
          rw [show (20 + 36 * (n9 : Int) + 2).toNat = 22 + 36 * n9 by omega]
          exact z_iret2 C hQ rfl dX7_ofGauge_95 ⟨zr (by first | rw [if_neg g4] | (rw [if_pos hb]; subst hv; rfl) | (rw [if_pos hb]; subst hv; first | exact (b2i_t h17).symm | exact (b2i_f h17).symm | exact (if_pos h17).symm | exact (if_neg h17).symm | omega) | (rw [if_pos hb]; unfold ofG; (repeat' split) <;> omega)), rfl, rfl, rfl, rfl, rfl⟩
        · refine z_tin C (tgt := 96) 3 dX7_ofGauge_27 hv (by decide) (by decide) (by decide) rfl (by decide) ?_
          refine z_aload_n C dX7_ofGauge_96 rfl ?_
          refine z_iload_n C dX7_ofGauge_97 rfl ?_
          refine z_iconst C dX7_ofGauge_98 ?_
          refine z_callVd C (ci := 7) rfl (by decide) (by first | assumption | exact hM.1) (mX7_part l G hM (by omega) (by omega)) (cwV 2 C.2.2.2.2.1 gv7_64 rfl rfl rfl hd_X7_part ⟨Nat.le_of_ble_eq_true rfl, Nat.le_of_ble_eq_true rfl⟩) rfl rfl (Nat.le_of_ble_eq_true rfl) dX7_ofGauge_99 ⟨Nat.zero_le _, Nat.zero_le _⟩ ?_
          rw [show (20 + 36 * (n9 : Int) + 3).toNat = 23 + 36 * n9 by omega]
          exact z_iret2 C hQ rfl dX7_ofGauge_102 ⟨zr (by first | rw [if_neg g4] | (rw [if_pos hb]; subst hv; rfl) | (rw [if_pos hb]; subst hv; first | exact (b2i_t h17).symm | exact (b2i_f h17).symm | exact (if_pos h17).symm | exact (if_neg h17).symm | omega) | (rw [if_pos hb]; unfold ofG; (repeat' split) <;> omega)), rfl, rfl, rfl, rfl, rfl⟩
        · refine z_tin C (tgt := 103) 4 dX7_ofGauge_27 hv (by decide) (by decide) (by decide) rfl (by decide) ?_
          refine z_aload_n C dX7_ofGauge_103 rfl ?_
          refine z_iload_n C dX7_ofGauge_104 rfl ?_
          refine z_iconst C dX7_ofGauge_105 ?_
          refine z_callVd C (ci := 7) rfl (by decide) (by first | assumption | exact hM.1) (mX7_part l G hM (by omega) (by omega)) (cwV 2 C.2.2.2.2.1 gv7_64 rfl rfl rfl hd_X7_part ⟨Nat.le_of_ble_eq_true rfl, Nat.le_of_ble_eq_true rfl⟩) rfl rfl (Nat.le_of_ble_eq_true rfl) dX7_ofGauge_106 ⟨Nat.zero_le _, Nat.zero_le _⟩ ?_
          rw [show (20 + 36 * (n9 : Int) + 3).toNat = 23 + 36 * n9 by omega]
          refine z_aload_n C dX7_ofGauge_109 rfl ?_
          refine z_iload_n C dX7_ofGauge_110 rfl ?_
          refine z_iconst C dX7_ofGauge_111 ?_
          refine z_callVd C (ci := 7) rfl (by decide) (by first | assumption | exact hM.1) (mX7_part l G hM (by omega) (by omega)) (cwV 2 C.2.2.2.2.1 gv7_64 rfl rfl rfl hd_X7_part ⟨Nat.le_of_ble_eq_true rfl, Nat.le_of_ble_eq_true rfl⟩) rfl rfl (Nat.le_of_ble_eq_true rfl) dX7_ofGauge_112 ⟨Nat.zero_le _, Nat.zero_le _⟩ ?_
          rw [show (20 + 36 * (n9 : Int) + 2).toNat = 22 + 36 * n9 by omega]
          refine z_callSd C (mX7_reads l G c4 c3) (va_cwS 2 C.2.2.2.2.1 gv7_94 rfl rfl rfl hs_X7_reads ⟨Nat.le_of_ble_eq_true rfl, Nat.le_of_ble_eq_true rfl⟩) rfl rfl (Nat.le_of_ble_eq_true rfl) dX7_ofGauge_115 ⟨Nat.zero_le _, Nat.zero_le _⟩ ?_
          exact z_iret2 C hQ rfl dX7_ofGauge_118 ⟨zr (by first | rw [if_neg g4] | (rw [if_pos hb]; subst hv; rfl) | (rw [if_pos hb]; subst hv; first | exact (b2i_t h17).symm | exact (b2i_f h17).symm | exact (if_pos h17).symm | exact (if_neg h17).symm | omega) | (rw [if_pos hb]; unfold ofG; (repeat' split) <;> omega)), rfl, rfl, rfl, rfl, rfl⟩
        · refine z_tin C (tgt := 119) 5 dX7_ofGauge_27 hv (by decide) (by decide) (by decide) rfl (by decide) ?_
          refine z_iload_n C dX7_ofGauge_119 rfl ?_
          refine z_if_eq C (tgt := 127) dX7_ofGauge_120 (by decide) (by first | omega | exact b2i_r) (fun h120 => ?_) (fun h120 => ?_)
          · refine z_iconst C dX7_ofGauge_127 ?_
            exact z_iret2 C hQ rfl dX7_ofGauge_128 ⟨zr (by first | rw [if_neg g4] | (rw [if_pos hb]; subst hv; rfl) | (rw [if_pos hb]; subst hv; first | exact (b2i_t h17).symm | exact (b2i_f h17).symm | exact (if_pos h17).symm | exact (if_neg h17).symm | omega) | (rw [if_pos hb]; unfold ofG; (repeat' split) <;> omega)), rfl, rfl, rfl, rfl, rfl⟩
          · refine z_iconst C dX7_ofGauge_123 ?_
            refine z_goto C (tgt := 128) dX7_ofGauge_124 (by decide) ?_
            exact z_iret2 C hQ rfl dX7_ofGauge_128 ⟨zr (by first | rw [if_neg g4] | (rw [if_pos hb]; subst hv; rfl) | (rw [if_pos hb]; subst hv; first | exact (b2i_t h17).symm | exact (b2i_f h17).symm | exact (if_pos h17).symm | exact (if_neg h17).symm | omega) | (rw [if_pos hb]; unfold ofG; (repeat' split) <;> omega)), rfl, rfl, rfl, rfl, rfl⟩
        · refine z_tin C (tgt := 129) 6 dX7_ofGauge_27 hv (by decide) (by decide) (by decide) rfl (by decide) ?_
          refine z_iload_n C dX7_ofGauge_129 rfl ?_
          refine z_if_eq C (tgt := 142) dX7_ofGauge_130 (by decide) (by first | omega | exact b2i_r) (fun h130 => ?_) (fun h130 => ?_)
          · refine z_bipush C dX7_ofGauge_142 (by decide) ?_
            exact z_iret2 C hQ rfl dX7_ofGauge_144 ⟨zr (by first | rw [if_neg g4] | (rw [if_pos hb]; subst hv; rfl) | (rw [if_pos hb]; subst hv; first | exact (b2i_t h17).symm | exact (b2i_f h17).symm | exact (if_pos h17).symm | exact (if_neg h17).symm | omega) | (rw [if_pos hb]; unfold ofG; (repeat' split) <;> omega)), rfl, rfl, rfl, rfl, rfl⟩
          · refine z_aload_n C dX7_ofGauge_133 rfl ?_
            refine z_iload_n C dX7_ofGauge_134 rfl ?_
            refine z_iconst C dX7_ofGauge_135 ?_
            refine z_callVd C (ci := 7) rfl (by decide) (by first | assumption | exact hM.1) (mX7_part l G hM (by omega) (by omega)) (cwV 2 C.2.2.2.2.1 gv7_64 rfl rfl rfl hd_X7_part ⟨Nat.le_of_ble_eq_true rfl, Nat.le_of_ble_eq_true rfl⟩) rfl rfl (Nat.le_of_ble_eq_true rfl) dX7_ofGauge_136 ⟨Nat.zero_le _, Nat.zero_le _⟩ ?_
            rw [show (20 + 36 * (n9 : Int) + 5).toNat = 25 + 36 * n9 by omega]
            refine z_goto C (tgt := 144) dX7_ofGauge_139 (by decide) ?_
            exact z_iret2 C hQ rfl dX7_ofGauge_144 ⟨zr (by first | rw [if_neg g4] | (rw [if_pos hb]; subst hv; rfl) | (rw [if_pos hb]; subst hv; first | exact (b2i_t h17).symm | exact (b2i_f h17).symm | exact (if_pos h17).symm | exact (if_neg h17).symm | omega) | (rw [if_pos hb]; unfold ofG; (repeat' split) <;> omega)), rfl, rfl, rfl, rfl, rfl⟩
        · refine z_tin C (tgt := 145) 7 dX7_ofGauge_27 hv (by decide) (by decide) (by decide) rfl (by decide) ?_
          refine z_iload_n C dX7_ofGauge_145 rfl ?_
          refine z_if_eq C (tgt := 159) dX7_ofGauge_146 (by decide) (by first | omega | exact b2i_r) (fun h146 => ?_) (fun h146 => ?_)
          · refine z_bipush C dX7_ofGauge_159 (by decide) ?_
            exact z_iret2 C hQ rfl dX7_ofGauge_161 ⟨zr (by first | rw [if_neg g4] | (rw [if_pos hb]; subst hv; rfl) | (rw [if_pos hb]; subst hv; first | exact (b2i_t h17).symm | exact (b2i_f h17).symm | exact (if_pos h17).symm | exact (if_neg h17).symm | omega) | (rw [if_pos hb]; unfold ofG; (repeat' split) <;> omega)), rfl, rfl, rfl, rfl, rfl⟩
          · refine z_aload_n C dX7_ofGauge_149 rfl ?_
            refine z_iload_n C dX7_ofGauge_150 rfl ?_
            refine z_bipush C dX7_ofGauge_151 (by decide) ?_
            refine z_callVd C (ci := 7) rfl (by decide) (by first | assumption | exact hM.1) (mX7_part l G hM (by omega) (by omega)) (cwV 2 C.2.2.2.2.1 gv7_64 rfl rfl rfl hd_X7_part ⟨Nat.le_of_ble_eq_true rfl, Nat.le_of_ble_eq_true rfl⟩) rfl rfl (Nat.le_of_ble_eq_true rfl) dX7_ofGauge_153 ⟨Nat.zero_le _, Nat.zero_le _⟩ ?_
            rw [show (20 + 36 * (n9 : Int) + 6).toNat = 26 + 36 * n9 by omega]
            refine z_goto C (tgt := 161) dX7_ofGauge_156 (by decide) ?_
            exact z_iret2 C hQ rfl dX7_ofGauge_161 ⟨zr (by first | rw [if_neg g4] | (rw [if_pos hb]; subst hv; rfl) | (rw [if_pos hb]; subst hv; first | exact (b2i_t h17).symm | exact (b2i_f h17).symm | exact (if_pos h17).symm | exact (if_neg h17).symm | omega) | (rw [if_pos hb]; unfold ofG; (repeat' split) <;> omega)), rfl, rfl, rfl, rfl, rfl⟩
  · have g4 := b2i_0.mp h5
    refine z_iconst C dX7_ofGauge_8 ?_
    exact z_iret2 C hQ rfl dX7_ofGauge_9 ⟨zr (by first | rw [if_neg g4] | (rw [if_pos hb]; subst hv; rfl) | (rw [if_pos hb]; subst hv; first | exact (b2i_t h17).symm | exact (b2i_f h17).symm | exact (if_pos h17).symm | exact (if_neg h17).symm | omega) | (rw [if_pos hb]; unfold ofG; (repeat' split) <;> omega)), rfl, rfl, rfl, rfl, rfl⟩

set_option maxHeartbeats 4000000 in
set_option maxRecDepth 100000 in
theorem mX7_reading (l : Launch) (G : GG) {z : Nat} {K N : Nat → Nat} {I : MI} {R : MR} {o : Nat} (hM : ShM G z K N R o) (hO : Ok (I (o + 1))) {gg pl : Int} (hgg : -2147483648 ≤ gg ∧ gg < 2147483648) (hpl : -2147483648 ≤ pl ∧ pl < 2147483648) : Cod l G yX7_reading (Cond.code yX7_reading cX7_reading 3 (some .int) :: wsL_law) ⟨2, 0, 0, 43⟩ [.ref o, .int (zI gg), .int (zI pl)] z K N I R (some (.int (zI (if 0 ≤ gg ∧ gg ≤ I (o + 1) 5 - 1 then (if ¬ I (o + 1) (24 + 36 * gg.toNat) = 0 ∧ (0 ≤ pl ∧ pl ≤ 2 * I (o + 1) 3 - 1) then I (o + 1) (28 + 36 * gg.toNat + pl.toNat) else -1) else -1)))) I R := by
  refine Con.of (own := RX7) (cc := cX7_reading) (maxL := 3) (ret := (some .int)) (by decide +kernel) rfl rfl (Nat.le_of_ble_eq_true rfl) (by decide) rfl ?_
  intro p e9 s mt args below meth c Q hin hQ C
  obtain ⟨ho, ⟨r0, r1, r3, r4, r5, r7, r8⟩, ⟨k1, k2, k3, k4, k5, k6, k7⟩, n1, n2, n3, n4, n5, n6, n7⟩ := id hM
  have h5 := hO.2.2.2.2.2.1
  have h3 := hO.2.2.2.1
  refine z_aload_n C dX7_reading_0 rfl ?_
  refine z_iload_n C dX7_reading_1 rfl ?_
  refine z_callVd C (ci := 7) rfl (by decide) (by first | assumption | exact hM.1) (mX7_isGauge l G hM hO hgg) (cwV 1 C.2.2.2.2.1 gv7_143 rfl rfl rfl hd_X7_isGauge ⟨Nat.le_of_ble_eq_true rfl, Nat.le_of_ble_eq_true rfl⟩) rfl rfl (Nat.le_of_ble_eq_true rfl) dX7_reading_2 ⟨Nat.zero_le _, Nat.zero_le _⟩ ?_
  refine z_if_eq C (tgt := 35) dX7_reading_5 (by decide) (by first | omega | exact b2i_r) (fun h5 => ?_) (fun h5 => ?_)
  · refine z_iconst C dX7_reading_35 ?_
    exact z_iret2 C hQ rfl dX7_reading_36 ⟨zr (by first | (rw [if_pos hb, if_pos ⟨h14, hb2⟩]; rfl) | (rw [if_pos hb, if_neg (fun z => b2i_0.mp h32 z.2)]) | (rw [if_pos hb, if_neg (fun z => z.1 h14)]) | rw [if_neg (b2i_0.mp h5)]), rfl, rfl, rfl, rfl, rfl⟩
  · have hb := b2i_1.mp h5
    obtain ⟨n9, rfl⟩ := Int.eq_ofNat_of_zero_le (show 0 ≤ gg by omega)
    obtain ⟨c1, c2, c3, c4, c5⟩ := hO.2.2.2.2.2.2.2 n9 (by omega)
    refine z_aload_n C dX7_reading_8 rfl ?_
    refine z_iload_n C dX7_reading_9 rfl ?_
    refine z_iconst C dX7_reading_10 ?_
    refine z_callVd C (ci := 7) rfl (by decide) (by first | assumption | exact hM.1) (mX7_part l G hM (by omega) (by omega)) (cwV 2 C.2.2.2.2.1 gv7_64 rfl rfl rfl hd_X7_part ⟨Nat.le_of_ble_eq_true rfl, Nat.le_of_ble_eq_true rfl⟩) rfl rfl (Nat.le_of_ble_eq_true rfl) dX7_reading_11 ⟨Nat.zero_le _, Nat.zero_le _⟩ ?_
    rw [show (20 + 36 * (n9 : Int) + 4).toNat = 24 + 36 * n9 by omega]
    refine z_if_eq C (tgt := 35) dX7_reading_14 (by decide) (by first | omega | exact b2i_r) (fun h14 => ?_) (fun h14 => ?_)
    · refine z_iconst C dX7_reading_35 ?_
      exact z_iret2 C hQ rfl dX7_reading_36 ⟨zr (by first | (rw [if_pos hb, if_pos ⟨h14, hb2⟩]; rfl) | (rw [if_pos hb, if_neg (fun z => b2i_0.mp h32 z.2)]) | (rw [if_pos hb, if_neg (fun z => z.1 h14)]) | rw [if_neg (b2i_0.mp h5)]), rfl, rfl, rfl, rfl, rfl⟩
    · refine z_iload_n C dX7_reading_17 rfl ?_
      refine z_iconst C dX7_reading_18 ?_
      refine z_iconst C dX7_reading_19 ?_
      refine z_aload_n C dX7_reading_20 rfl ?_
      refine z_gR C (ci := 7) (k := 0) rfl (by decide) rfl (by decide) wl_7 wq_4_3 (by decide) dX7_reading_21 (by assumption) (by assumption) ?_
      refine z_iconst C dX7_reading_24 ?_
      refine z_ialdk C (3) dX7_reading_25 (by assumption) (by first | rfl | omega) (by omega) (by omega) ?_
      refine z_imul C dX7_reading_26 ?_
      refine z_iconst C dX7_reading_27 ?_
      refine z_isub C dX7_reading_28 ?_
      refine z_callSd C (mX7_within l G (by omega) (by omega) (by omega)) (va_cwS 3 C.2.2.2.2.1 gv7_39 rfl rfl rfl hs_X7_within ⟨Nat.le_of_ble_eq_true rfl, Nat.le_of_ble_eq_true rfl⟩) rfl rfl (Nat.le_of_ble_eq_true rfl) dX7_reading_29 ⟨Nat.zero_le _, Nat.zero_le _⟩ ?_
      refine z_if_ne C (tgt := 37) dX7_reading_32 (by decide) (by first | omega | exact b2i_r) (fun h32 => ?_) (fun h32 => ?_)
      · have hb2 := b2i_1.mp h32
        obtain ⟨n8, rfl⟩ := Int.eq_ofNat_of_zero_le hb2.1
        refine z_aload_n C dX7_reading_37 rfl ?_
        refine z_iload_n C dX7_reading_38 rfl ?_
        refine z_bipush C dX7_reading_39 (by decide) ?_
        refine z_iload_n C dX7_reading_41 rfl ?_
        refine z_iadd C dX7_reading_42 ?_
        refine z_callVd C (ci := 7) rfl (by decide) (by first | assumption | exact hM.1) (mX7_part l G hM (by omega) (by omega)) (cwV 2 C.2.2.2.2.1 gv7_64 rfl rfl rfl hd_X7_part ⟨Nat.le_of_ble_eq_true rfl, Nat.le_of_ble_eq_true rfl⟩) rfl rfl (Nat.le_of_ble_eq_true rfl) dX7_reading_43 ⟨Nat.zero_le _, Nat.zero_le _⟩ ?_
        rw [show (20 + 36 * (n9 : Int) + (8 + (n8 : Int))).toNat = 28 + 36 * n9 + n8 by omega]
        exact z_iret2 C hQ rfl dX7_reading_46 ⟨zr (by first | (rw [if_pos hb, if_pos ⟨h14, hb2⟩]; rfl) | (rw [if_pos hb, if_neg (fun z => b2i_0.mp h32 z.2)]) | (rw [if_pos hb, if_neg (fun z => z.1 h14)]) | rw [if_neg (b2i_0.mp h5)]), rfl, rfl, rfl, rfl, rfl⟩
      · refine z_iconst C dX7_reading_35 ?_
        exact z_iret2 C hQ rfl dX7_reading_36 ⟨zr (by first | (rw [if_pos hb, if_pos ⟨h14, hb2⟩]; rfl) | (rw [if_pos hb, if_neg (fun z => b2i_0.mp h32 z.2)]) | (rw [if_pos hb, if_neg (fun z => z.1 h14)]) | rw [if_neg (b2i_0.mp h5)]), rfl, rfl, rfl, rfl, rfl⟩

set_option maxHeartbeats 4000000 in
set_option maxRecDepth 100000 in
theorem mX7_pressure (l : Launch) (G : GG) {z : Nat} {K N : Nat → Nat} {I : MI} {R : MR} {o : Nat} (hM : ShM G z K N R o) (hO : Ok (I (o + 1))) {rg : Int} (hrg : -2147483648 ≤ rg ∧ rg < 2147483648) : Cod l G yX7_pressure (Cond.code yX7_pressure cX7_pressure 2 (some .int) :: wsL_law) ⟨4, 0, 0, 86⟩ [.ref o, .int (zI rg)] z K N I R (some (.int (zI (if rg < 0 then -2 else prsA (I (o + 1)) rg)))) I R := by
  refine Con.of (own := RX7) (cc := cX7_pressure) (maxL := 2) (ret := (some .int)) (by decide +kernel) rfl rfl (Nat.le_of_ble_eq_true rfl) (by decide) rfl ?_
  intro p e9 s mt args below meth c Q hin hQ C
  refine z_iload_n C dX7_pressure_0 rfl ?_
  refine z_if_ge C (tgt := 9) dX7_pressure_1 (by decide) (by first | omega | exact b2i_r) (fun h1 => ?_) (fun h1 => ?_)
  · refine z_aload_n C dX7_pressure_9 rfl ?_
    refine z_iload_n C dX7_pressure_10 rfl ?_
    refine z_callVd C (ci := 7) rfl (by decide) (by first | assumption | exact hM.1) (mX7_pressureOf l G hM hO (by omega)) (cwV 1 C.2.2.2.2.1 gv7_67 rfl rfl rfl hd_X7_pressureOf ⟨Nat.le_of_ble_eq_true rfl, Nat.le_of_ble_eq_true rfl⟩) rfl rfl (Nat.le_of_ble_eq_true rfl) dX7_pressure_11 ⟨Nat.zero_le _, Nat.zero_le _⟩ ?_
    exact z_iret2 C hQ rfl dX7_pressure_14 ⟨zr (by first | rw [if_pos (by omega)] | rw [if_neg (by omega)]), rfl, rfl, rfl, rfl, rfl⟩
  · refine z_bipush C dX7_pressure_4 (by decide) ?_
    refine z_goto C (tgt := 14) dX7_pressure_6 (by decide) ?_
    exact z_iret2 C hQ rfl dX7_pressure_14 ⟨zr (by first | rw [if_pos (by omega)] | rw [if_neg (by omega)]), rfl, rfl, rfl, rfl, rfl⟩

set_option maxHeartbeats 4000000 in
set_option maxRecDepth 100000 in
theorem mX7_airCosts (l : Launch) (G : GG) {z : Nat} {K N : Nat → Nat} {I : MI} {R : MR} {o : Nat} (hM : ShM G z K N R o) (hO : Ok (I (o + 1))) {ar : Int} (har : -2147483648 ≤ ar ∧ ar < 2147483648) : Cod l G yX7_airCosts (Cond.code yX7_airCosts cX7_airCosts 3 (some .int) :: wsL_law) ⟨3, 0, 0, 65⟩ [.ref o, .int (zI ar)] z K N I R (some (.int (zI (if 0 ≤ ar ∧ ar ≤ 9 then prs (massA (I (o + 1)) (I (o + 1) 4)) ar (I (o + 1) 1) - prs (massA (I (o + 1)) (I (o + 1) 4)) (I (o + 1) 0) (I (o + 1) 1) + 10000 else -2)))) I R := by
  refine Con.of (own := RX7) (cc := cX7_airCosts) (maxL := 3) (ret := (some .int)) (by decide +kernel) rfl rfl (Nat.le_of_ble_eq_true rfl) (by decide) rfl ?_
  intro p e9 s mt args below meth c Q hin hQ C
  obtain ⟨ho, ⟨r0, r1, r3, r4, r5, r7, r8⟩, ⟨k1, k2, k3, k4, k5, k6, k7⟩, n1, n2, n3, n4, n5, n6, n7⟩ := id hM
  have h4 := Ok4 hO
  refine z_iload_n C dX7_airCosts_0 rfl ?_
  refine z_iconst C dX7_airCosts_1 ?_
  refine z_bipush C dX7_airCosts_2 (by decide) ?_
  refine z_callSd C (mX7_within l G (by omega) (by omega) (by omega)) (va_cwS 3 C.2.2.2.2.1 gv7_39 rfl rfl rfl hs_X7_within ⟨Nat.le_of_ble_eq_true rfl, Nat.le_of_ble_eq_true rfl⟩) rfl rfl (Nat.le_of_ble_eq_true rfl) dX7_airCosts_4 ⟨Nat.zero_le _, Nat.zero_le _⟩ ?_
  refine z_if_ne C (tgt := 13) dX7_airCosts_7 (by decide) (by first | omega | exact b2i_r) (fun h7 => ?_) (fun h7 => ?_)
  · have hb := b2i_1.mp h7
    refine z_aload_n C dX7_airCosts_13 rfl ?_
    refine z_aload_n C dX7_airCosts_14 rfl ?_
    refine z_gR C (ci := 7) (k := 0) rfl (by decide) rfl (by decide) wl_7 wq_4_3 (by decide) dX7_airCosts_15 (by assumption) (by assumption) ?_
    refine z_iconst C dX7_airCosts_18 ?_
    refine z_ialdk C (4) dX7_airCosts_19 (by assumption) (by first | rfl | omega) (by omega) (by omega) ?_
    refine z_callVd C (ci := 7) rfl (by decide) (by first | assumption | exact hM.1) (mX7_massOf l G hM hO (by omega)) (cwV 1 C.2.2.2.2.1 gv7_51 rfl rfl rfl hd_X7_massOf ⟨Nat.le_of_ble_eq_true rfl, Nat.le_of_ble_eq_true rfl⟩) rfl rfl (Nat.le_of_ble_eq_true rfl) dX7_airCosts_20 ⟨Nat.zero_le _, Nat.zero_le _⟩ ?_
    refine z_istore_n C dX7_airCosts_23 (by decide) rfl ?_
    refine z_aload_n C dX7_airCosts_24 rfl ?_
    refine z_iload_n C dX7_airCosts_25 rfl ?_
    refine z_iload_n C dX7_airCosts_26 rfl ?_
    refine z_callVd C (ci := 7) rfl (by decide) (by first | assumption | exact hM.1) (mX7_pressureBy l G hM hO (massA_rng hO _) (by first | exact hb | exact hO.1)) (cwV 2 C.2.2.2.2.1 gv7_55 rfl rfl rfl hd_X7_pressureBy ⟨Nat.le_of_ble_eq_true rfl, Nat.le_of_ble_eq_true rfl⟩) rfl rfl (Nat.le_of_ble_eq_true rfl) dX7_airCosts_27 ⟨Nat.zero_le _, Nat.zero_le _⟩ ?_
    refine z_aload_n C dX7_airCosts_30 rfl ?_
    refine z_iload_n C dX7_airCosts_31 rfl ?_
    refine z_aload_n C dX7_airCosts_32 rfl ?_
    refine z_gR C (ci := 7) (k := 0) rfl (by decide) rfl (by decide) wl_7 wq_4_3 (by decide) dX7_airCosts_33 (by assumption) (by assumption) ?_
    refine z_iconst C dX7_airCosts_36 ?_
    refine z_ialdk C (0) dX7_airCosts_37 (by assumption) (by first | rfl | omega) (by omega) (by omega) ?_
    refine z_callVd C (ci := 7) rfl (by decide) (by first | assumption | exact hM.1) (mX7_pressureBy l G hM hO (massA_rng hO _) (by first | exact hb | exact hO.1)) (cwV 2 C.2.2.2.2.1 gv7_55 rfl rfl rfl hd_X7_pressureBy ⟨Nat.le_of_ble_eq_true rfl, Nat.le_of_ble_eq_true rfl⟩) rfl rfl (Nat.le_of_ble_eq_true rfl) dX7_airCosts_38 ⟨Nat.zero_le _, Nat.zero_le _⟩ ?_
    refine z_isub C dX7_airCosts_41 ?_
    refine z_sipush C dX7_airCosts_42 (by decide) ?_
    refine z_iadd C dX7_airCosts_45 ?_
    exact z_iret2 C hQ rfl dX7_airCosts_46 ⟨zr (by first | rw [if_pos hb] | rw [if_neg (b2i_0.mp h7)]), rfl, rfl, rfl, rfl, rfl⟩
  · refine z_bipush C dX7_airCosts_10 (by decide) ?_
    exact z_iret2 C hQ rfl dX7_airCosts_12 ⟨zr (by first | rw [if_pos hb] | rw [if_neg (b2i_0.mp h7)]), rfl, rfl, rfl, rfl, rfl⟩

set_option maxHeartbeats 4000000 in
set_option maxRecDepth 100000 in
theorem mX7_undo (l : Launch) (G : GG) {z : Nat} {K N : Nat → Nat} {I : MI} {R : MR} {o : Nat} (hM : ShM G z K N R o) (hR : 0 ≤ I o 2 ∧ I o 2 ≤ 6) : Cod l G yX7_undo (Cond.code yX7_undo cX7_undo 1 (some .int) :: wsL_law) ⟨1, 0, 0, 24⟩ [.ref o] z K N I R (some (.int (zI (if I o 2 = 0 then -5 else I o 2 - 1)))) (if I o 2 = 0 then I else va_up (u2 I o 2 (I o 2 - 1)) (o + 1) (movF (I (o + 2)) (I (o + 1)) ((I o 2 - 1) * 236).toNat 0)) R := by
  refine Con.of (own := RX7) (cc := cX7_undo) (maxL := 1) (ret := (some .int)) (by decide +kernel) rfl rfl (Nat.le_of_ble_eq_true rfl) (by decide) rfl ?_
  intro p e9 s mt args below meth c Q hin hQ C
  obtain ⟨ho, ⟨r0, r1, r3, r4, r5, r7, r8⟩, ⟨k1, k2, k3, k4, k5, k6, k7⟩, n1, n2, n3, n4, n5, n6, n7⟩ := id hM
  have q1 : o + 1 ≠ o := by omega
  have q2 : o + 2 ≠ o := by omega
  have q12 : o + 1 ≠ o + 2 := by omega
  have q02 : o ≠ o + 2 := by omega
  have q01 : o ≠ o + 1 := by omega
  refine z_aload_n C dX7_undo_0 rfl ?_
  refine z_gI C (ci := 7) (k := 2) rfl (by decide) rfl (by decide) wl_7 wq_8_6 rfl dX7_undo_1 (by assumption) ?_
  refine z_if_ne C (tgt := 10) dX7_undo_4 (by decide) (by first | omega | exact b2i_r) (fun h4 => ?_) (fun h4 => ?_)
  · refine z_aload_n C dX7_undo_10 rfl ?_
    refine z_dup C dX7_undo_11 rfl ?_
    refine z_gI C (ci := 7) (k := 2) rfl (by decide) rfl (by decide) wl_7 wq_8_6 rfl dX7_undo_12 (by assumption) ?_
    refine z_iconst C dX7_undo_15 ?_
    refine z_isub C dX7_undo_16 ?_
    refine z_pI C (ci := 7) (k := 2) rfl (by decide) rfl (by decide) tyX7_ok nmX7 wl_7 wq_8_6 rfl (Or.inl rfl) dX7_undo_17 (by assumption) ?_
    refine z_aload_n C dX7_undo_20 rfl ?_
    refine z_gR C (ci := 7) (k := 1) rfl (by decide) rfl (by decide) wl_7 wq_4_4 (by decide) dX7_undo_21 (by assumption) (by assumption) ?_
    refine z_aload_n C dX7_undo_24 rfl ?_
    refine z_gI C (ci := 7) (k := 2) rfl (by decide) rfl (by decide) wl_7 wq_8_6 rfl dX7_undo_25 (by assumption) ?_
    rw [u2_s]
    refine z_sipush C dX7_undo_28 (by decide) ?_
    refine z_imul C dX7_undo_31 ?_
    obtain ⟨t9, ht9, ht8⟩ : ∃ t9 : Nat, (I o 2 - 1) * 236 = (t9 : Int) ∧ t9 + 236 ≤ 1416 := ⟨((I o 2 - 1) * 236).toNat, by omega, by omega⟩
    rw [ht9]
    refine z_aload_n C dX7_undo_32 rfl ?_
    refine z_gR C (ci := 7) (k := 0) rfl (by decide) rfl (by decide) wl_7 wq_4_3 (by decide) dX7_undo_33 (by assumption) (by assumption) ?_
    refine z_iconst C dX7_undo_36 ?_
    refine z_callSd C (mX7_moves l G (f := t9) (t := 0) k2 k1 (Ne.symm q12) (by omega) (by omega) (by omega) (by omega)) (va_cwS 4 C.2.2.2.2.1 gv7_35 rfl rfl rfl hs_X7_moves ⟨Nat.le_of_ble_eq_true rfl, Nat.le_of_ble_eq_true rfl⟩) rfl rfl (Nat.le_of_ble_eq_true rfl) dX7_undo_37 ⟨Nat.zero_le _, Nat.zero_le _⟩ ?_
    rw [u2_row q1, u2_row q2]
    refine z_aload_n C dX7_undo_40 rfl ?_
    refine z_gI C (ci := 7) (k := 2) rfl (by decide) rfl (by decide) wl_7 wq_8_6 rfl dX7_undo_41 (by assumption) ?_
    rw [va_up_n q01, u2_s]
    exact z_iret2 C hQ rfl dX7_undo_44 ⟨zr (by first | rw [if_pos h4] | rw [if_neg h4]), rfl, rfl, rfl, by first | rw [if_pos h4] | rw [if_neg h4, show ((I o 2 - 1) * 236).toNat = t9 by omega], rfl⟩
  · refine z_bipush C dX7_undo_7 (by decide) ?_
    exact z_iret2 C hQ rfl dX7_undo_9 ⟨zr (by first | rw [if_pos h4] | rw [if_neg h4]), rfl, rfl, rfl, by first | rw [if_pos h4] | rw [if_neg h4, show ((I o 2 - 1) * 236).toNat = t9 by omega], rfl⟩

set_option maxHeartbeats 4000000 in
set_option maxRecDepth 100000 in
theorem mX7_save (l : Launch) (G : GG) {z : Nat} {K N : Nat → Nat} {I : MI} {R : MR} {o : Nat} (hM : ShM G z K N R o) {sl : Int} (hsl : -2147483648 ≤ sl ∧ sl < 2147483648) : Cod l G yX7_save (Cond.code yX7_save cX7_save 2 (some .int) :: wsL_law) ⟨1, 0, 0, 24⟩ [.ref o, .int (zI sl)] z K N I R (some (.int (zI (if 0 ≤ sl ∧ sl ≤ 1 then I (o + 1) 3 else -2)))) (if 0 ≤ sl ∧ sl ≤ 1 then u2 (va_up I (o + 3) (movF (I (o + 1)) (I (o + 3)) 0 (236 * sl.toNat))) (o + 4) sl.toNat 1 else I) R := by
  refine Con.of (own := RX7) (cc := cX7_save) (maxL := 2) (ret := (some .int)) (by decide +kernel) rfl rfl (Nat.le_of_ble_eq_true rfl) (by decide) rfl ?_
  intro p e9 s mt args below meth c Q hin hQ C
  obtain ⟨ho, ⟨r0, r1, r3, r4, r5, r7, r8⟩, ⟨k1, k2, k3, k4, k5, k6, k7⟩, n1, n2, n3, n4, n5, n6, n7⟩ := id hM
  refine z_iload_n C dX7_save_0 rfl ?_
  refine z_iconst C dX7_save_1 ?_
  refine z_iconst C dX7_save_2 ?_
  refine z_callSd C (mX7_within l G (by omega) (by omega) (by omega)) (va_cwS 3 C.2.2.2.2.1 gv7_39 rfl rfl rfl hs_X7_within ⟨Nat.le_of_ble_eq_true rfl, Nat.le_of_ble_eq_true rfl⟩) rfl rfl (Nat.le_of_ble_eq_true rfl) dX7_save_3 ⟨Nat.zero_le _, Nat.zero_le _⟩ ?_
  refine z_if_ne C (tgt := 12) dX7_save_6 (by decide) (by first | omega | exact b2i_r) (fun h6 => ?_) (fun h6 => ?_)
  · have hb := b2i_1.mp h6
    obtain ⟨n9, rfl⟩ := Int.eq_ofNat_of_zero_le (show 0 ≤ sl by omega)
    refine z_aload_n C dX7_save_12 rfl ?_
    refine z_gR C (ci := 7) (k := 0) rfl (by decide) rfl (by decide) wl_7 wq_4_3 (by decide) dX7_save_13 (by assumption) (by assumption) ?_
    refine z_iconst C dX7_save_16 ?_
    refine z_aload_n C dX7_save_17 rfl ?_
    refine z_gR C (ci := 7) (k := 3) rfl (by decide) rfl (by decide) wl_7 wq_4_5 (by decide) dX7_save_18 (by assumption) (by assumption) ?_
    refine z_sipush C dX7_save_21 (by decide) ?_
    refine z_iload_n C dX7_save_24 rfl ?_
    refine z_imul C dX7_save_25 ?_
    rw [show (236 * (n9 : Int)) = ((236 * n9 : Nat) : Int) by omega]
    refine z_callSd C (mX7_moves l G (f := 0) (t := 236 * n9) k1 k3 (by omega) (by omega) (by omega) (by omega) (by omega)) (va_cwS 4 C.2.2.2.2.1 gv7_35 rfl rfl rfl hs_X7_moves ⟨Nat.le_of_ble_eq_true rfl, Nat.le_of_ble_eq_true rfl⟩) rfl rfl (Nat.le_of_ble_eq_true rfl) dX7_save_26 ⟨Nat.zero_le _, Nat.zero_le _⟩ ?_
    refine z_aload_n C dX7_save_29 rfl ?_
    refine z_gR C (ci := 7) (k := 4) rfl (by decide) rfl (by decide) wl_7 wq_4_6 (by decide) dX7_save_30 (by assumption) (by assumption) ?_
    refine z_iload_n C dX7_save_33 rfl ?_
    refine z_iconst C dX7_save_34 ?_
    refine z_iastk C (n9) dX7_save_35 (by assumption) (by first | rfl | omega) (by omega) (by omega) ?_
    refine z_aload_n C dX7_save_36 rfl ?_
    refine z_gR C (ci := 7) (k := 0) rfl (by decide) rfl (by decide) wl_7 wq_4_3 (by decide) dX7_save_37 (by assumption) (by assumption) ?_
    refine z_iconst C dX7_save_40 ?_
    refine z_ialdk C (3) dX7_save_41 (by assumption) (by first | rfl | omega) (by omega) (by omega) ?_
    rw [u2_row (by omega), va_up_n (by omega)]
    exact z_iret2 C hQ rfl dX7_save_42 ⟨zr (by first | rw [if_pos hb] | rw [if_neg (b2i_0.mp h6)]), rfl, rfl, rfl, by first | (rw [if_pos hb]; rfl) | rw [if_neg (b2i_0.mp h6)], rfl⟩
  · refine z_bipush C dX7_save_9 (by decide) ?_
    exact z_iret2 C hQ rfl dX7_save_11 ⟨zr (by first | rw [if_pos hb] | rw [if_neg (b2i_0.mp h6)]), rfl, rfl, rfl, by first | (rw [if_pos hb]; rfl) | rw [if_neg (b2i_0.mp h6)], rfl⟩

set_option maxHeartbeats 4000000 in
set_option maxRecDepth 100000 in
theorem mX7_restore (l : Launch) (G : GG) {z : Nat} {K N : Nat → Nat} {I : MI} {R : MR} {o : Nat} (hM : ShM G z K N R o) (hR : 0 ≤ I o 2 ∧ I o 2 ≤ 6) (hS : ∀ k : Nat, k < 2 → I (o + 4) k = 0 ∨ I (o + 4) k = 1) {sl : Int} (hsl : -2147483648 ≤ sl ∧ sl < 2147483648) : Cod l G yX7_restore (Cond.code yX7_restore cX7_restore 2 (some .int) :: wsL_law) ⟨2, 0, 0, 45⟩ [.ref o, .int (zI sl)] z K N I R (some (.int (zI (if 0 ≤ sl ∧ sl ≤ 1 then (if I (o + 4) sl.toNat = 0 then -5 else movF (I (o + 3)) (I (o + 1)) (236 * sl.toNat) 0 3) else -2)))) (if (0 ≤ sl ∧ sl ≤ 1) ∧ ¬ I (o + 4) sl.toNat = 0 then va_up (recM I o) (o + 1) (movF (I (o + 3)) (I (o + 1)) (236 * sl.toNat) 0) else I) R := by
  refine Con.of (own := RX7) (cc := cX7_restore) (maxL := 2) (ret := (some .int)) (by decide +kernel) rfl rfl (Nat.le_of_ble_eq_true rfl) (by decide) rfl ?_
  intro p e9 s mt args below meth c Q hin hQ C
  obtain ⟨ho, ⟨r0, r1, r3, r4, r5, r7, r8⟩, ⟨k1, k2, k3, k4, k5, k6, k7⟩, n1, n2, n3, n4, n5, n6, n7⟩ := id hM
  refine z_iload_n C dX7_restore_0 rfl ?_
  refine z_iconst C dX7_restore_1 ?_
  refine z_iconst C dX7_restore_2 ?_
  refine z_callSd C (mX7_within l G (by omega) (by omega) (by omega)) (va_cwS 3 C.2.2.2.2.1 gv7_39 rfl rfl rfl hs_X7_within ⟨Nat.le_of_ble_eq_true rfl, Nat.le_of_ble_eq_true rfl⟩) rfl rfl (Nat.le_of_ble_eq_true rfl) dX7_restore_3 ⟨Nat.zero_le _, Nat.zero_le _⟩ ?_
  refine z_if_ne C (tgt := 12) dX7_restore_6 (by decide) (by first | omega | exact b2i_r) (fun h6 => ?_) (fun h6 => ?_)
  · have hb := b2i_1.mp h6
    obtain ⟨n9, rfl⟩ := Int.eq_ofNat_of_zero_le (show 0 ≤ sl by omega)
    have hS9 := hS n9 (by omega)
    refine z_aload_n C dX7_restore_12 rfl ?_
    refine z_gR C (ci := 7) (k := 4) rfl (by decide) rfl (by decide) wl_7 wq_4_6 (by decide) dX7_restore_13 (by assumption) (by assumption) ?_
    refine z_iload_n C dX7_restore_16 rfl ?_
    refine z_ialdk C (n9) dX7_restore_17 (by assumption) (by first | rfl | omega) (by omega) (by omega) ?_
    refine z_if_ne C (tgt := 24) dX7_restore_18 (by decide) (by first | omega | exact b2i_r) (fun h18 => ?_) (fun h18 => ?_)
    · refine z_aload_n C dX7_restore_24 rfl ?_
      refine z_callVd C (ci := 7) rfl (by decide) (by first | assumption | exact hM.1) (mX7_record l G hM hR) (cwV 0 C.2.2.2.2.1 gv7_107 rfl rfl rfl hd_X7_record ⟨Nat.le_of_ble_eq_true rfl, Nat.le_of_ble_eq_true rfl⟩) rfl rfl (Nat.le_of_ble_eq_true rfl) dX7_restore_25 ⟨Nat.zero_le _, Nat.zero_le _⟩ ?_
      refine z_aload_n C dX7_restore_28 rfl ?_
      refine z_gR C (ci := 7) (k := 3) rfl (by decide) rfl (by decide) wl_7 wq_4_5 (by decide) dX7_restore_29 (by assumption) (by assumption) ?_
      refine z_sipush C dX7_restore_32 (by decide) ?_
      refine z_iload_n C dX7_restore_35 rfl ?_
      refine z_imul C dX7_restore_36 ?_
      rw [show (236 * (n9 : Int)) = ((236 * n9 : Nat) : Int) by omega]
      refine z_aload_n C dX7_restore_37 rfl ?_
      refine z_gR C (ci := 7) (k := 0) rfl (by decide) rfl (by decide) wl_7 wq_4_3 (by decide) dX7_restore_38 (by assumption) (by assumption) ?_
      refine z_iconst C dX7_restore_41 ?_
      refine z_callSd C (mX7_moves l G (f := 236 * n9) (t := 0) k3 k1 (by omega) (by omega) (by omega) (by omega) (by omega)) (va_cwS 4 C.2.2.2.2.1 gv7_35 rfl rfl rfl hs_X7_moves ⟨Nat.le_of_ble_eq_true rfl, Nat.le_of_ble_eq_true rfl⟩) rfl rfl (Nat.le_of_ble_eq_true rfl) dX7_restore_42 ⟨Nat.zero_le _, Nat.zero_le _⟩ ?_
      rw [recM_k I o 3 (by omega) (by omega), recM_1]
      refine z_aload_n C dX7_restore_45 rfl ?_
      refine z_gR C (ci := 7) (k := 0) rfl (by decide) rfl (by decide) wl_7 wq_4_3 (by decide) dX7_restore_46 (by assumption) (by assumption) ?_
      refine z_iconst C dX7_restore_49 ?_
      refine z_ialdk C (3) dX7_restore_50 (by assumption) (by first | rfl | omega) (by omega) (by omega) ?_
      rw [va_up_s]
      exact z_iret2 C hQ rfl dX7_restore_51 ⟨zr (by first | exact (if_neg (b2i_0.mp h6)).symm | exact ((if_pos hb).trans (if_neg h18)).symm | exact ((if_pos hb).trans (if_pos h18)).symm), rfl, rfl, rfl, by first | exact (if_neg (fun z => b2i_0.mp h6 z.1)).symm | exact (if_neg (fun z => z.2 h18)).symm | exact (if_pos ⟨hb, h18⟩).symm, rfl⟩
    · refine z_bipush C dX7_restore_21 (by decide) ?_
      exact z_iret2 C hQ rfl dX7_restore_23 ⟨zr (by first | exact (if_neg (b2i_0.mp h6)).symm | exact ((if_pos hb).trans (if_neg h18)).symm | exact ((if_pos hb).trans (if_pos h18)).symm), rfl, rfl, rfl, by first | exact (if_neg (fun z => b2i_0.mp h6 z.1)).symm | exact (if_neg (fun z => z.2 h18)).symm | exact (if_pos ⟨hb, h18⟩).symm, rfl⟩
  · refine z_bipush C dX7_restore_9 (by decide) ?_
    exact z_iret2 C hQ rfl dX7_restore_11 ⟨zr (by first | exact (if_neg (b2i_0.mp h6)).symm | exact ((if_pos hb).trans (if_neg h18)).symm | exact ((if_pos hb).trans (if_pos h18)).symm), rfl, rfl, rfl, by first | exact (if_neg (fun z => b2i_0.mp h6 z.1)).symm | exact (if_neg (fun z => z.2 h18)).symm | exact (if_pos ⟨hb, h18⟩).symm, rfl⟩

set_option maxHeartbeats 4000000 in
set_option maxRecDepth 100000 in
theorem mX7_wipe (l : Launch) (G : GG) {z : Nat} {K N : Nat → Nat} {I : MI} {R : MR} {o : Nat} (hM : ShM G z K N R o) : Cod l G yX7_wipe (Cond.code yX7_wipe cX7_wipe 2 (some .int) :: wsL_law) ⟨0, 0, 0, 0⟩ [.ref o] z K N I R (some (.int (zI (I o 6)))) (u2 I o 6 0) R := by
  refine Con.of (own := RX7) (cc := cX7_wipe) (maxL := 2) (ret := (some .int)) (by decide +kernel) rfl rfl (Nat.le_of_ble_eq_true rfl) (by decide) rfl ?_
  intro p e9 s mt args below meth c Q hin hQ C
  obtain ⟨ho, ⟨r0, r1, r3, r4, r5, r7, r8⟩, ⟨k1, k2, k3, k4, k5, k6, k7⟩, n1, n2, n3, n4, n5, n6, n7⟩ := id hM
  refine z_aload_n C dX7_wipe_0 rfl ?_
  refine z_gI C (ci := 7) (k := 6) rfl (by decide) rfl (by decide) wl_7 wq_22_5 rfl dX7_wipe_1 (by assumption) ?_
  refine z_istore_n C dX7_wipe_4 (by decide) rfl ?_
  refine z_aload_n C dX7_wipe_5 rfl ?_
  refine z_iconst C dX7_wipe_6 ?_
  refine z_pI C (ci := 7) (k := 6) rfl (by decide) rfl (by decide) tyX7_ok nmX7 wl_7 wq_22_5 rfl (Or.inl rfl) dX7_wipe_7 (by assumption) ?_
  refine z_iload_n C dX7_wipe_10 rfl ?_
  exact z_iret2 C hQ rfl dX7_wipe_11 ⟨rfl, rfl, rfl, rfl, rfl, rfl⟩

