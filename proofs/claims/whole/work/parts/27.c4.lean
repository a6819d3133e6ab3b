def gR (er pl sp : Int) (old : Nat → Int) : Nat → Int := st1 (st1 (st1 (st1 old 0 er) 1 pl) 2 sp) 3 0
theorem gR_0 (er pl sp : Int) (old : Nat → Int) : gR er pl sp old 0 = er := by unfold gR; rw [st1_n (by omega), st1_n (by omega), st1_n (by omega), st1_s]
theorem gR_1 (er pl sp : Int) (old : Nat → Int) : gR er pl sp old 1 = pl := by unfold gR; rw [st1_n (by omega), st1_n (by omega), st1_s]
theorem gR_2 (er pl sp : Int) (old : Nat → Int) : gR er pl sp old 2 = sp := by unfold gR; rw [st1_n (by omega), st1_s]
theorem gR_3 (er pl sp : Int) (old : Nat → Int) : gR er pl sp old 3 = 0 := by unfold gR; rw [st1_s]
theorem ShT.u2 {G : GG} {z : Nat} {K N : Nat → Nat} {R : MR} {t : Nat} (h : ShT G z K N R t) {a : Nat} (k : Nat) (r : Option Nat) (h1 : ¬ a = t) (h2 : ¬ a = t + 3) : ShT G z K N (u2 R a k r) t := by
  obtain ⟨a, ⟨b0, b1, b2⟩, c, d, e⟩ := h
  refine ⟨a, ⟨?_, ?_, ?_⟩, c, d, fun i hi => ⟨(e i hi).1, ?_⟩⟩
  · rw [u2_row (Ne.symm h1)]; exact b0
  · rw [u2_row (Ne.symm h1)]; exact b1
  · rw [u2_row (Ne.symm h1)]; exact b2
  · rw [u2_row (Ne.symm h2)]; exact (e i hi).2
theorem TN.ga {I : MI} {t : Nat} {f : Nat → Int} (h : TN I t f) {q : Nat} (hq : f 5 ≤ q) (r : Nat → Int) : TN (va_up I (t + 4 + q) r) t f := by
  obtain ⟨⟨a, b, c⟩, ⟨d, e, k⟩, m, n⟩ := h
  refine ⟨⟨?_, ?_, ?_⟩, ⟨?_, ?_, ?_⟩, fun r hr => ?_, fun g hg => ?_⟩
  · rw [va_up_n (by omega)]; exact a
  · rw [va_up_n (by omega)]; exact b
  · rw [va_up_n (by omega)]; exact c
  · rw [va_up_n (by omega)]; exact d
  · rw [va_up_n (by omega)]; exact e
  · rw [va_up_n (by omega)]; exact k
  · rw [va_up_n (by omega)]; exact m r hr
  · rw [va_up_n (by omega)]; exact n g hg
set_option maxHeartbeats 4000000 in
set_option maxRecDepth 100000 in
theorem mX4_addGauge (l : Launch) (G : GG) {z : Nat} {K N : Nat → Nat} {I : MI} {R : MR} {t : Nat} (hM : ShT G z K N R t) {f : Nat → Int} (hV : TN I t f) (hO : Ok f) {er pl sp : Int} (her : -2147483648 ≤ er ∧ er < 2147483648) (hpl : -2147483648 ≤ pl ∧ pl < 2147483648) (hsp : -2147483648 ≤ sp ∧ sp < 2147483648) : Cod l G yX4_addGauge (Cond.code yX4_addGauge cX4_addGauge 4 (some .int) :: wsL_law) ⟨4, 0, 0, 84⟩ [.ref t, .int (zI er), .int (zI pl), .int (zI sp)] z K N I R (some (.int (zI (if (-99 ≤ er ∧ er ≤ 99) ∧ (0 ≤ pl ∧ pl ≤ 99) ∧ (1 ≤ sp ∧ sp ≤ 99) then (if f 5 = 6 then -4 else f 5) else -2)))) (if ((-99 ≤ er ∧ er ≤ 99) ∧ (0 ≤ pl ∧ pl ≤ 99) ∧ (1 ≤ sp ∧ sp ≤ 99)) ∧ ¬ f 5 = 6 then (u2 (u2 (va_up I (t + 4 + (f 5).toNat) (gR er pl sp (I (t + 4 + (f 5).toNat)))) (t + 4 + (f 5).toNat) 3 (goes 0 (prsA f (f 4)) er pl)) t 5 (f 5 + 1)) else I) (if ((-99 ≤ er ∧ er ≤ 99) ∧ (0 ≤ pl ∧ pl ≤ 99) ∧ (1 ≤ sp ∧ sp ≤ 99)) ∧ ¬ f 5 = 6 then (u2 R (t + 4 + (f 5).toNat) 4 none) else R) := by
  refine Con.of (own := RX4) (cc := cX4_addGauge) (maxL := 4) (ret := (some .int)) (by decide +kernel) rfl rfl (Nat.le_of_ble_eq_true rfl) (by decide) rfl ?_
  intro p e9 s mt args below meth c Q hin hQ C
  obtain ⟨ho, ⟨r0, r1, r2⟩, ⟨k1, k2, k3⟩, ⟨n1, n2, n3⟩, hg⟩ := id hM
  obtain ⟨⟨v0, v1, v2⟩, ⟨v3, v4, v5⟩, vr, vg⟩ := id hV
  obtain ⟨b0, b1, b2, b3, b4, b5, br, bg⟩ := id hO
  have b4b := Ok4 hO
  refine z_iload_n C dX4_addGauge_0 rfl ?_
  refine z_bipush C dX4_addGauge_1 (by decide) ?_
  refine z_icmp_lt C (tgt := 33) dX4_addGauge_3 (by decide) (by first | omega | exact b2i_r) (by first | omega | exact b2i_r) (fun h3 => ?_) (fun h3 => ?_)
  · have hno : ¬ ((-99 ≤ er ∧ er ≤ 99) ∧ (0 ≤ pl ∧ pl ≤ 99) ∧ (1 ≤ sp ∧ sp ≤ 99)) := by omega
    refine z_bipush C dX4_addGauge_33 (by decide) ?_
    exact z_iret2 C hQ rfl dX4_addGauge_35 ⟨zr (by first | (rw [if_neg hno]; done) | (rw [if_pos hyes, if_pos h6]; done) | rw [if_pos hyes, if_neg h6]), rfl, rfl, rfl, by first | (rw [if_neg (fun z => hno z.1)]; done) | (rw [if_pos ⟨hyes, h6⟩, hn8]; done) | rw [if_neg (fun z => z.2 h6)], by first | (rw [if_neg (fun z => hno z.1)]; done) | (rw [if_pos ⟨hyes, h6⟩, hn8]; done) | rw [if_neg (fun z => z.2 h6)]⟩
  · refine z_iload_n C dX4_addGauge_6 rfl ?_
    refine z_bipush C dX4_addGauge_7 (by decide) ?_
    refine z_icmp_gt C (tgt := 33) dX4_addGauge_9 (by decide) (by first | omega | exact b2i_r) (by first | omega | exact b2i_r) (fun h9 => ?_) (fun h9 => ?_)
    · have hno : ¬ ((-99 ≤ er ∧ er ≤ 99) ∧ (0 ≤ pl ∧ pl ≤ 99) ∧ (1 ≤ sp ∧ sp ≤ 99)) := by omega
      refine z_bipush C dX4_addGauge_33 (by decide) ?_
      exact z_iret2 C hQ rfl dX4_addGauge_35 ⟨zr (by first | (rw [if_neg hno]; done) | (rw [if_pos hyes, if_pos h6]; done) | rw [if_pos hyes, if_neg h6]), rfl, rfl, rfl, by first | (rw [if_neg (fun z => hno z.1)]; done) | (rw [if_pos ⟨hyes, h6⟩, hn8]; done) | rw [if_neg (fun z => z.2 h6)], by first | (rw [if_neg (fun z => hno z.1)]; done) | (rw [if_pos ⟨hyes, h6⟩, hn8]; done) | rw [if_neg (fun z => z.2 h6)]⟩
    · refine z_iload_n C dX4_addGauge_12 rfl ?_
      refine z_if_lt C (tgt := 33) dX4_addGauge_13 (by decide) (by first | omega | exact b2i_r) (fun h13 => ?_) (fun h13 => ?_)
      · have hno : ¬ ((-99 ≤ er ∧ er ≤ 99) ∧ (0 ≤ pl ∧ pl ≤ 99) ∧ (1 ≤ sp ∧ sp ≤ 99)) := by omega
        refine z_bipush C dX4_addGauge_33 (by decide) ?_
        exact z_iret2 C hQ rfl dX4_addGauge_35 ⟨zr (by first | (rw [if_neg hno]; done) | (rw [if_pos hyes, if_pos h6]; done) | rw [if_pos hyes, if_neg h6]), rfl, rfl, rfl, by first | (rw [if_neg (fun z => hno z.1)]; done) | (rw [if_pos ⟨hyes, h6⟩, hn8]; done) | rw [if_neg (fun z => z.2 h6)], by first | (rw [if_neg (fun z => hno z.1)]; done) | (rw [if_pos ⟨hyes, h6⟩, hn8]; done) | rw [if_neg (fun z => z.2 h6)]⟩
      · refine z_iload_n C dX4_addGauge_16 rfl ?_
        refine z_bipush C dX4_addGauge_17 (by decide) ?_
        refine z_icmp_gt C (tgt := 33) dX4_addGauge_19 (by decide) (by first | omega | exact b2i_r) (by first | omega | exact b2i_r) (fun h19 => ?_) (fun h19 => ?_)
        · have hno : ¬ ((-99 ≤ er ∧ er ≤ 99) ∧ (0 ≤ pl ∧ pl ≤ 99) ∧ (1 ≤ sp ∧ sp ≤ 99)) := by omega
          refine z_bipush C dX4_addGauge_33 (by decide) ?_
          exact z_iret2 C hQ rfl dX4_addGauge_35 ⟨zr (by first | (rw [if_neg hno]; done) | (rw [if_pos hyes, if_pos h6]; done) | rw [if_pos hyes, if_neg h6]), rfl, rfl, rfl, by first | (rw [if_neg (fun z => hno z.1)]; done) | (rw [if_pos ⟨hyes, h6⟩, hn8]; done) | rw [if_neg (fun z => z.2 h6)], by first | (rw [if_neg (fun z => hno z.1)]; done) | (rw [if_pos ⟨hyes, h6⟩, hn8]; done) | rw [if_neg (fun z => z.2 h6)]⟩
        · refine z_iload_n C dX4_addGauge_22 rfl ?_
          refine z_iconst C dX4_addGauge_23 ?_
          refine z_icmp_lt C (tgt := 33) dX4_addGauge_24 (by decide) (by first | omega | exact b2i_r) (by first | omega | exact b2i_r) (fun h24 => ?_) (fun h24 => ?_)
          · have hno : ¬ ((-99 ≤ er ∧ er ≤ 99) ∧ (0 ≤ pl ∧ pl ≤ 99) ∧ (1 ≤ sp ∧ sp ≤ 99)) := by omega
            refine z_bipush C dX4_addGauge_33 (by decide) ?_
            exact z_iret2 C hQ rfl dX4_addGauge_35 ⟨zr (by first | (rw [if_neg hno]; done) | (rw [if_pos hyes, if_pos h6]; done) | rw [if_pos hyes, if_neg h6]), rfl, rfl, rfl, by first | (rw [if_neg (fun z => hno z.1)]; done) | (rw [if_pos ⟨hyes, h6⟩, hn8]; done) | rw [if_neg (fun z => z.2 h6)], by first | (rw [if_neg (fun z => hno z.1)]; done) | (rw [if_pos ⟨hyes, h6⟩, hn8]; done) | rw [if_neg (fun z => z.2 h6)]⟩
          · refine z_iload_n C dX4_addGauge_27 rfl ?_
            refine z_bipush C dX4_addGauge_28 (by decide) ?_
            refine z_icmp_le C (tgt := 36) dX4_addGauge_30 (by decide) (by first | omega | exact b2i_r) (by first | omega | exact b2i_r) (fun h30 => ?_) (fun h30 => ?_)
            · have hyes : (-99 ≤ er ∧ er ≤ 99) ∧ (0 ≤ pl ∧ pl ≤ 99) ∧ (1 ≤ sp ∧ sp ≤ 99) := by omega
              refine z_aload_n C dX4_addGauge_36 rfl ?_
              refine z_gI C (ci := 4) (k := 5) rfl (by decide) rfl (by decide) wl_4 wq_5_5 rfl dX4_addGauge_37 (by assumption) ?_
              refine z_bipush C dX4_addGauge_40 (by decide) ?_
              refine z_icmp_lt C (tgt := 48) dX4_addGauge_42 (by decide) (by first | omega | exact b2i_r) (by first | omega | exact b2i_r) (fun h42 => ?_) (fun h42 => ?_)
              · have h6 : ¬ f 5 = 6 := by omega
                obtain ⟨n9, hn9⟩ := Int.eq_ofNat_of_zero_le (show 0 ≤ f 5 by omega)
                have hn8 : (f 5).toNat = n9 := by omega
                have kg9 := (hg n9 (by omega)).1
                have r2v : u2 R (t + 4 + n9) 4 none t 2 = some (t + 3) := by rw [u2_row (by omega)]; exact r2
                refine z_aload_n C dX4_addGauge_48 rfl ?_
                refine z_gR C (ci := 4) (k := 2) rfl (by decide) rfl (by decide) wl_4 wq_2_20 (by decide) dX4_addGauge_49 (by assumption) (by assumption) ?_
                refine z_aload_n C dX4_addGauge_52 rfl ?_
                refine z_gI C (ci := 4) (k := 5) rfl (by decide) rfl (by decide) wl_4 wq_5_5 rfl dX4_addGauge_53 (by assumption) ?_
                refine z_aaldk C (n9) 10 (by decide) dX4_addGauge_56 (by assumption) (by first | rfl | omega) (by omega) (by omega) ?_
                refine z_top (y := .ref (t + 4 + n9)) (by rw [(hg n9 (by omega)).2]; rfl) ?_
                refine z_iload_n C dX4_addGauge_57 rfl ?_
                refine z_iload_n C dX4_addGauge_58 rfl ?_
                refine z_iload_n C dX4_addGauge_59 rfl ?_
                refine z_callVd C (ci := 1) rfl (by decide) (by first | assumption | exact hM.1) (mX1_begin l G kg9) (cwV 3 C.2.2.2.2.1 gv4_73 rfl rfl rfl hd_X1_begin ⟨Nat.le_of_ble_eq_true rfl, Nat.le_of_ble_eq_true rfl⟩) rfl rfl (Nat.le_of_ble_eq_true rfl) dX4_addGauge_60 ⟨Nat.zero_le _, Nat.zero_le _⟩ ?_
                rw [show (st1 (st1 (st1 (st1 (I (t + 4 + n9)) 0 er) 1 pl) 2 sp) 3 0) = gR er pl sp (I (t + 4 + n9)) from rfl]
                refine z_aload_n C dX4_addGauge_63 rfl ?_
                refine z_gR C (ci := 4) (k := 2) rfl (by decide) rfl (by decide) wl_4 wq_2_20 (by decide) dX4_addGauge_64 (by assumption) (by assumption) ?_
                refine z_aload_n C dX4_addGauge_67 rfl ?_
                refine z_gI C (ci := 4) (k := 5) rfl (by decide) rfl (by decide) wl_4 wq_5_5 rfl dX4_addGauge_68 (by assumption) ?_
                rw [va_up_n (by omega)]
                refine z_aaldk C (n9) 10 (by decide) dX4_addGauge_71 (by assumption) (by first | rfl | omega) (by omega) (by omega) ?_
                refine z_top (y := .ref (t + 4 + n9)) (by rw [u2_row (by omega), (hg n9 (by omega)).2]; rfl) ?_
                refine z_aload_n C dX4_addGauge_72 rfl ?_
                refine z_callVd C (ci := 4) rfl (by decide) (by first | assumption | exact hM.1) (mX4_columnPressure l G (hM.u2 4 none (by omega) (by omega)) (hV.ga (q := n9) (by omega) _) hO) (cwV 0 C.2.2.2.2.1 gv4_77 rfl rfl rfl hd_X4_columnPressure ⟨Nat.le_of_ble_eq_true rfl, Nat.le_of_ble_eq_true rfl⟩) rfl rfl (Nat.le_of_ble_eq_true rfl) dX4_addGauge_73 ⟨Nat.zero_le _, Nat.zero_le _⟩ ?_
                refine z_callVd C (ci := 1) rfl (by decide) (by first | assumption | exact hM.1) (mX1_follow l G kg9 (prsA_rng hO _) (by rw [va_up_s, gR_0]; exact hyes.1) (by rw [va_up_s, gR_1]; exact hyes.2.1) (by rw [va_up_s, gR_3]; omega)) (cwV 1 C.2.2.2.2.1 gv4_80 rfl rfl rfl hd_X1_follow ⟨Nat.le_of_ble_eq_true rfl, Nat.le_of_ble_eq_true rfl⟩) rfl rfl (Nat.le_of_ble_eq_true rfl) dX4_addGauge_76 ⟨Nat.zero_le _, Nat.zero_le _⟩ ?_
                rw [va_up_s, gR_3, gR_0, gR_1]
                refine z_aload_n C dX4_addGauge_79 rfl ?_
                refine z_dup C dX4_addGauge_80 rfl ?_
                refine z_gI C (ci := 4) (k := 5) rfl (by decide) rfl (by decide) wl_4 wq_5_5 rfl dX4_addGauge_81 (by assumption) ?_
                rw [u2_row (by omega), va_up_n (by omega), v5]
                refine z_dup_x1 C dX4_addGauge_84 rfl rfl ?_
                refine z_iconst C dX4_addGauge_85 ?_
                refine z_iadd C dX4_addGauge_86 ?_
                refine z_pI C (ci := 4) (k := 5) rfl (by decide) rfl (by decide) tyX4_ok nmX4 wl_4 wq_5_5 rfl (Or.inl rfl) dX4_addGauge_87 (by assumption) ?_
                exact z_iret2 C hQ rfl dX4_addGauge_90 ⟨zr (by first | (rw [if_neg hno]; done) | (rw [if_pos hyes, if_pos h6]; done) | rw [if_pos hyes, if_neg h6]), rfl, rfl, rfl, by first | (rw [if_neg (fun z => hno z.1)]; done) | (rw [if_pos ⟨hyes, h6⟩, hn8]; done) | rw [if_neg (fun z => z.2 h6)], by first | (rw [if_neg (fun z => hno z.1)]; done) | (rw [if_pos ⟨hyes, h6⟩, hn8]; done) | rw [if_neg (fun z => z.2 h6)]⟩
              · have h6 : f 5 = 6 := by omega
                refine z_bipush C dX4_addGauge_45 (by decide) ?_
                exact z_iret2 C hQ rfl dX4_addGauge_47 ⟨zr (by first | (rw [if_neg hno]; done) | (rw [if_pos hyes, if_pos h6]; done) | rw [if_pos hyes, if_neg h6]), rfl, rfl, rfl, by first | (rw [if_neg (fun z => hno z.1)]; done) | (rw [if_pos ⟨hyes, h6⟩, hn8]; done) | rw [if_neg (fun z => z.2 h6)], by first | (rw [if_neg (fun z => hno z.1)]; done) | (rw [if_pos ⟨hyes, h6⟩, hn8]; done) | rw [if_neg (fun z => z.2 h6)]⟩
            · have hno : ¬ ((-99 ≤ er ∧ er ≤ 99) ∧ (0 ≤ pl ∧ pl ≤ 99) ∧ (1 ≤ sp ∧ sp ≤ 99)) := by omega
              refine z_bipush C dX4_addGauge_33 (by decide) ?_
              exact z_iret2 C hQ rfl dX4_addGauge_35 ⟨zr (by first | (rw [if_neg hno]; done) | (rw [if_pos hyes, if_pos h6]; done) | rw [if_pos hyes, if_neg h6]), rfl, rfl, rfl, by first | (rw [if_neg (fun z => hno z.1)]; done) | (rw [if_pos ⟨hyes, h6⟩, hn8]; done) | rw [if_neg (fun z => z.2 h6)], by first | (rw [if_neg (fun z => hno z.1)]; done) | (rw [if_pos ⟨hyes, h6⟩, hn8]; done) | rw [if_neg (fun z => z.2 h6)]⟩

theorem TN.tune {I : MI} {t : Nat} {f : Nat → Int} (h : TN I t f) (h3 : f 3 ≤ 14) (q : Nat) (er : Int) : TN (u2 I (t + 4 + q) 0 er) t (st1 f (20 + 36 * q) er) := by
  obtain ⟨⟨a, b, c⟩, ⟨d, e, k⟩, m, n⟩ := h
  have hx : ∀ j : Nat, j < 20 → st1 f (20 + 36 * q) er j = f j := fun j hj => st1_n (by omega)
  refine ⟨⟨?_, ?_, ?_⟩, ⟨?_, ?_, ?_⟩, fun r hr => ?_, fun g hg => ?_⟩
  · rw [u2_row (by omega), hx _ (by omega)]; exact a
  · rw [u2_row (by omega), hx _ (by omega)]; exact b
  · rw [u2_row (by omega), hx _ (by omega)]; exact c
  · rw [u2_row (by omega), hx _ (by omega)]; exact d
  · rw [u2_row (by omega), hx _ (by omega)]; exact e
  · rw [u2_row (by omega), hx _ (by omega)]; exact k
  · rw [hx _ (by omega)] at hr
    rw [u2_row (by omega), hx _ (by omega)]; exact m r hr
  · rw [hx _ (by omega)] at hg
    obtain ⟨q0, q1, q2, q3⟩ := n g hg
    by_cases e : g = q
    · subst e
      rw [u2_s, st1_s, u2_k (by omega), u2_k (by omega), u2_k (by omega), st1_n (by omega), st1_n (by omega), st1_n (by omega)]
      exact ⟨rfl, q1, q2, q3⟩
    · rw [u2_row (by omega), st1_n (by omega), st1_n (by omega), st1_n (by omega), st1_n (by omega)]; exact ⟨q0, q1, q2, q3⟩
theorem prsA_tune {f : Nat → Int} (h3 : f 3 ≤ 14) (q : Nat) (er sm : Int) : prsA (st1 f (20 + 36 * q) er) sm = prsA f sm := prsA_cong h3 fun j hj => st1_n (by omega)
theorem Ok.tuned {f : Nat → Int} (h : Ok f) (g : Nat) {e : Int} (he : -99 ≤ e ∧ e ≤ 99) : Ok (st1 f (20 + 36 * g) e) := by
  obtain ⟨a0, a1, a2, a3, a4, a5, a6, a7⟩ := h
  have h2 : ∀ j : Nat, j ≠ 20 + 36 * g → st1 f (20 + 36 * g) e j = f j := fun j h1 => st1_n h1
  unfold Ok
  rw [h2 0 (by omega), h2 1 (by omega), h2 2 (by omega), h2 3 (by omega), h2 4 (by omega), h2 5 (by omega)]
  refine ⟨a0, a1, a2, a3, a4, a5, fun r hr => by rw [h2 _ (by omega)]; exact a6 r hr, fun q hq => ?_⟩
  obtain ⟨d1, d2, d3, d4, d5⟩ := a7 q hq
  rw [h2 (21 + 36 * q) (by omega), h2 (22 + 36 * q) (by omega), h2 (23 + 36 * q) (by omega), h2 (24 + 36 * q) (by omega)]
  refine ⟨?_, d2, d3, d4, d5⟩
  unfold st1
  split
  · exact he
  · exact d1
set_option maxHeartbeats 4000000 in
set_option maxRecDepth 100000 in
theorem mX4_adjust (l : Launch) (G : GG) {z : Nat} {K N : Nat → Nat} {I : MI} {R : MR} {t : Nat} (hM : ShT G z K N R t) {f : Nat → Int} (hV : TN I t f) (hO : Ok f) {q er : Int} (hq : -2147483648 ≤ q ∧ q < 2147483648) (her : -2147483648 ≤ er ∧ er < 2147483648) : Cod l G yX4_adjust (Cond.code yX4_adjust cX4_adjust 5 (some .int) :: wsL_law) ⟨4, 0, 0, 84⟩ [.ref t, .int (zI q), .int (zI er)] z K N I R (some (.int (zI (if 0 ≤ q ∧ q ≤ f 5 - 1 then (if -99 ≤ er ∧ er ≤ 99 then f (20 + 36 * q.toNat) + 100 else -2) else -1)))) (if (0 ≤ q ∧ q ≤ f 5 - 1) ∧ (-99 ≤ er ∧ er ≤ 99) then (u2 (u2 I (t + 4 + q.toNat) 0 er) (t + 4 + q.toNat) 3 (goes (f (23 + 36 * q.toNat)) (prsA f (f 4)) er (f (21 + 36 * q.toNat)))) else I) (if (0 ≤ q ∧ q ≤ f 5 - 1) ∧ (-99 ≤ er ∧ er ≤ 99) then u2 R (t + 4 + q.toNat) 4 none else R) := by
  refine Con.of (own := RX4) (cc := cX4_adjust) (maxL := 5) (ret := (some .int)) (by decide +kernel) rfl rfl (Nat.le_of_ble_eq_true rfl) (by decide) rfl ?_
  intro p e9 s mt args below meth c Q hin hQ C
  obtain ⟨ho, ⟨r0, r1, r2⟩, ⟨k1, k2, k3⟩, ⟨n1, n2, n3⟩, hg⟩ := id hM
  obtain ⟨⟨v0, v1, v2⟩, ⟨v3, v4, v5⟩, vr, vg⟩ := id hV
  obtain ⟨b0, b1, b2, b3, b4, b5, br, bg⟩ := id hO
  have b4b := Ok4 hO
  refine z_aload_n C dX4_adjust_0 rfl ?_
  refine z_iload_n C dX4_adjust_1 rfl ?_
  refine z_callVd C (ci := 4) rfl (by decide) (by first | assumption | exact hM.1) (mX4_gaugeAt l G hM hV hO hq) (cwV 1 C.2.2.2.2.1 gv4_84 rfl rfl rfl hd_X4_gaugeAt ⟨Nat.le_of_ble_eq_true rfl, Nat.le_of_ble_eq_true rfl⟩) rfl rfl (Nat.le_of_ble_eq_true rfl) dX4_adjust_2 ⟨Nat.zero_le _, Nat.zero_le _⟩ ?_
  by_cases hq9 : 0 ≤ q ∧ q ≤ I t 5 - 1
  · obtain ⟨n9, rfl⟩ := Int.eq_ofNat_of_zero_le (show 0 ≤ q by omega)
    have kg9 := (hg n9 (by omega)).1
    have kr9 := (hg n9 (by omega)).2
    refine z_top (y := .ref (t + 4 + n9)) (by rw [if_pos hq9]; rfl) ?_
    refine z_astore_n C dX4_adjust_5 (by decide) rfl ?_
    refine z_aload_n C dX4_adjust_6 rfl ?_
    refine z_nonnullR C (tgt := 12) dX4_adjust_7 (by decide) ?_
    have hyq : 0 ≤ (n9 : Int) ∧ (n9 : Int) ≤ f 5 - 1 := by omega
    simp only [Int.toNat_natCast] at hQ
    obtain ⟨g0, g1, g2, g3⟩ := vg n9 (by omega)
    obtain ⟨c0, c1, c2, c3, c4⟩ := bg n9 (by omega)
    refine z_iload_n C dX4_adjust_12 rfl ?_
    refine z_bipush C dX4_adjust_13 (by decide) ?_
    refine z_icmp_lt C (tgt := 24) dX4_adjust_15 (by decide) (by first | omega | exact b2i_r) (by first | omega | exact b2i_r) (fun h15 => ?_) (fun h15 => ?_)
    · have hne : ¬ (-99 ≤ er ∧ er ≤ 99) := by omega
      refine z_bipush C dX4_adjust_24 (by decide) ?_
      exact z_iret2 C hQ rfl dX4_adjust_26 ⟨zr (by first | (rw [if_neg hno]; done) | (rw [if_pos hyq, if_pos hyes]; done) | (rw [if_pos hyq, if_neg hne]; done)), rfl, rfl, rfl, by first | (rw [if_neg (fun z => hno z.1)]; done) | (rw [if_pos ⟨hyq, hyes⟩]; done) | (rw [if_neg (fun z => hne z.2)]; done), by first | (rw [if_neg (fun z => hno z.1)]; done) | (rw [if_pos ⟨hyq, hyes⟩]; done) | (rw [if_neg (fun z => hne z.2)]; done)⟩
    · refine z_iload_n C dX4_adjust_18 rfl ?_
      refine z_bipush C dX4_adjust_19 (by decide) ?_
      refine z_icmp_le C (tgt := 27) dX4_adjust_21 (by decide) (by first | omega | exact b2i_r) (by first | omega | exact b2i_r) (fun h21 => ?_) (fun h21 => ?_)
      · have hyes : -99 ≤ er ∧ er ≤ 99 := by omega
        have hOe : Ok (st1 f (20 + 36 * n9) er) := hO.tuned n9 hyes
        have e4 : st1 f (20 + 36 * n9) er 4 = f 4 := st1_n (by omega)
        have hpp := prsA_tune b3.2 n9 er (f 4)
        refine z_aload_n C dX4_adjust_27 rfl ?_
        refine z_gI C (ci := 1) (k := 0) rfl (by decide) rfl (by decide) wl_1 wq_15_14 rfl dX4_adjust_28 (by assumption) ?_
        rw [g0]
        refine z_bipush C dX4_adjust_31 (by decide) ?_
        refine z_iadd C dX4_adjust_33 ?_
        refine z_istore C dX4_adjust_34 (by decide) rfl ?_
        refine z_aload_n C dX4_adjust_36 rfl ?_
        refine z_iload_n C dX4_adjust_37 rfl ?_
        refine z_pI C (ci := 1) (k := 0) rfl (by decide) rfl (by decide) tyX1_ok nmX1 wl_1 wq_15_14 rfl (Or.inl rfl) dX4_adjust_38 (by assumption) ?_
        refine z_aload_n C dX4_adjust_41 rfl ?_
        refine z_null C dX4_adjust_42 ?_
        refine z_pR (r := none) C (ci := 1) (k := 4) rfl (by decide) rfl (by decide) tyX1_ok nmX1 wl_1 wq_5_23 (by decide) (fun r => by cases r <;> exact ⟨rfl, rfl⟩) (Or.inl rfl) dX4_adjust_43 (by assumption) ?_
        refine z_aload_n C dX4_adjust_46 rfl ?_
        refine z_aload_n C dX4_adjust_47 rfl ?_
        refine z_callVd C (ci := 4) rfl (by decide) (by first | assumption | exact hM.1) (mX4_columnPressure l G (hM.u2 4 none (by omega) (by omega)) (hV.tune b3.2 n9 er) hOe) (cwV 0 C.2.2.2.2.1 gv4_77 rfl rfl rfl hd_X4_columnPressure ⟨Nat.le_of_ble_eq_true rfl, Nat.le_of_ble_eq_true rfl⟩) rfl rfl (Nat.le_of_ble_eq_true rfl) dX4_adjust_48 ⟨Nat.zero_le _, Nat.zero_le _⟩ ?_
        rw [e4, hpp]
        refine z_callVd C (ci := 1) rfl (by decide) (by first | assumption | exact hM.1) (mX1_follow l G kg9 (prsA_rng hO _) (by rw [u2_s]; exact hyes) (by rw [u2_k (by omega)]; omega) (by rw [u2_k (by omega)]; omega)) (cwV 1 C.2.2.2.2.1 gv4_80 rfl rfl rfl hd_X1_follow ⟨Nat.le_of_ble_eq_true rfl, Nat.le_of_ble_eq_true rfl⟩) rfl rfl (Nat.le_of_ble_eq_true rfl) dX4_adjust_51 ⟨Nat.zero_le _, Nat.zero_le _⟩ ?_
        rw [u2_k (by omega), u2_s, u2_k (by omega), g3, g1]
        refine z_iload C dX4_adjust_54 rfl ?_
        exact z_iret2 C hQ rfl dX4_adjust_56 ⟨zr (by first | (rw [if_neg hno]; done) | (rw [if_pos hyq, if_pos hyes]; done) | (rw [if_pos hyq, if_neg hne]; done)), rfl, rfl, rfl, by first | (rw [if_neg (fun z => hno z.1)]; done) | (rw [if_pos ⟨hyq, hyes⟩]; done) | (rw [if_neg (fun z => hne z.2)]; done), by first | (rw [if_neg (fun z => hno z.1)]; done) | (rw [if_pos ⟨hyq, hyes⟩]; done) | (rw [if_neg (fun z => hne z.2)]; done)⟩
      · have hne : ¬ (-99 ≤ er ∧ er ≤ 99) := by omega
        refine z_bipush C dX4_adjust_24 (by decide) ?_
        exact z_iret2 C hQ rfl dX4_adjust_26 ⟨zr (by first | (rw [if_neg hno]; done) | (rw [if_pos hyq, if_pos hyes]; done) | (rw [if_pos hyq, if_neg hne]; done)), rfl, rfl, rfl, by first | (rw [if_neg (fun z => hno z.1)]; done) | (rw [if_pos ⟨hyq, hyes⟩]; done) | (rw [if_neg (fun z => hne z.2)]; done), by first | (rw [if_neg (fun z => hno z.1)]; done) | (rw [if_pos ⟨hyq, hyes⟩]; done) | (rw [if_neg (fun z => hne z.2)]; done)⟩
  · refine z_top (y := .null) (by rw [if_neg hq9]; rfl) ?_
    refine z_astoreN_n C dX4_adjust_5 (by decide) rfl ?_
    refine z_aloadN_n C dX4_adjust_6 rfl ?_
    refine z_nonnullN C dX4_adjust_7 ?_
    have hno : ¬ (0 ≤ q ∧ q ≤ f 5 - 1) := by omega
    refine z_iconst C dX4_adjust_10 ?_
    exact z_iret2 C hQ rfl dX4_adjust_11 ⟨zr (by first | (rw [if_neg hno]; done) | (rw [if_pos hyq, if_pos hyes]; done) | (rw [if_pos hyq, if_neg hne]; done)), rfl, rfl, rfl, by first | (rw [if_neg (fun z => hno z.1)]; done) | (rw [if_pos ⟨hyq, hyes⟩]; done) | (rw [if_neg (fun z => hne z.2)]; done), by first | (rw [if_neg (fun z => hno z.1)]; done) | (rw [if_pos ⟨hyq, hyes⟩]; done) | (rw [if_neg (fun z => hne z.2)]; done)⟩

