/-! texts again, wherever the cursor stands -/
theorem POk.z4 {P g : Nat → Int} (h : POk P (g 2)) : TOk P (md (st1 g 4 0)) := by
  rw [md_c]
  have := h.1
  exact ⟨by rw [st1_n (by omega), md_6]; exact h.1, h.2, by rw [st1_s, st1_n (by omega), md_6]; omega⟩
theorem POk.t0 {P f : Nat → Int} (h : POk P (f 6)) : TOk P (st1 f 11 0) := by
  have := h.1
  exact ⟨by rw [st1_n (by omega)]; exact h.1, h.2, by rw [st1_s, st1_n (by omega)]; omega⟩
theorem ffV_ok2 {P f : Nat → Int} (h : POk P (f 6)) (hF : FOk f) : (-6 ≤ ffV P f ∧ ffV P f ≤ 80) ∧ FOk (ffF P f) ∧ ∀ j : Nat, j < 11 → ffF P f j = f j := by
  obtain ⟨a, b, c⟩ := ffV_ok h.t0 (hF.kp fun j hj => st1_n (by omega))
  have e1 : ffV P (st1 f 11 0) = ffV P f := by unfold ffV; rw [st1_2]
  have e2 : ffF P (st1 f 11 0) = ffF P f := by unfold ffF; rw [st1_2]
  rw [e1] at a
  rw [e2] at b c
  exact ⟨a, b, fun j hj => (c j hj).trans (st1_n (by omega))⟩
theorem coJ_ok2 {I : MI} {o : Nat} (hO : Ok (I (o + 1))) (hT : POk (I (o + 5)) (I o 6)) (hF : FOk (I o)) (hff : ffV (I (o + 5)) (I o) = -6) :
    (coJ I o o 6 = I o 6 ∧ coJ I o o 11 = 0) ∧ coJ I o (o + 5) = I (o + 5) ∧ TOk (coJ I o (o + 5)) (coJ I o o) ∧ FOk (coJ I o o) ∧ Ok (coJ I o (o + 1)) ∧ (coJ I o o 11 = coJ I o o 6 ∨ ∃ q2 : Nat, (ffL (coJ I o (o + 5)) q2 (coJ I o o)).1 = -6) := by
  obtain ⟨a, b, c⟩ := ffV_ok2 hT hF
  have h6 : coJ I o o 6 = I o 6 := by
    unfold coJ
    rw [u2_k (by omega), recM_o _ _ _ (by omega), va_up_s, c 6 (by omega)]
  have h11 : coJ I o o 11 = 0 := u2_s _ _ _ _
  have h5 : coJ I o (o + 5) = I (o + 5) := by
    unfold coJ
    rw [u2_row (by omega), recM_k _ _ _ (by omega) (by omega), va_up_n (by omega)]
  have h1 : coJ I o (o + 1) = I (o + 1) := by
    unfold coJ
    rw [u2_row (by omega), recM_1, va_up_n (by omega)]
  refine ⟨⟨h6, h11⟩, h5, ?_, ?_, by rw [h1]; exact hO, Or.inr ⟨82, ?_⟩⟩
  · rw [h5]
    have := hT.1
    exact ⟨by rw [h6]; exact hT.1, hT.2, by rw [h6, h11]; omega⟩
  · intro j j1 j2
    unfold coJ
    rw [u2_k (by omega), recM_o _ _ _ (by omega), va_up_s]
    exact b j j1 j2
  · rw [h5]
    exact (Sm.e_ffL 82 _ (st1 (I o) 11 0) ⟨by rw [h6, st1_n (by omega)], by rw [h11, st1_s]⟩).trans hff
set_option maxHeartbeats 4000000 in
set_option maxRecDepth 100000 in
theorem nX3_clear (l : Launch) (G : GG) {z : Nat} {K N : Nat → Nat} {I : MI} {R : MR} {b : Nat} (hM : ShP G z K N R b) {nu g : Nat → Int} (hT : POk (I (b + 2)) (g 2))  : Cod l G yX3_clear (Cond.code yX3_clear cX3_clear 2 (some .int) :: wsL_law) ⟨0, 0, 0, 0⟩ [.ref b] z K N (PM I b nu g) R (some (.int (zI (g 2)))) (PM I b nu (st1 g 2 0)) R := by
  refine Con.of (own := RX3) (cc := cX3_clear) (maxL := 2) (ret := (some .int)) (by decide +kernel) rfl rfl (Nat.le_of_ble_eq_true rfl) (by decide) rfl ?_
  intro p e9 s mt args below meth c Q hin hQ C
  obtain ⟨ho, ⟨r0, r3⟩, ⟨k1, k2⟩, n1, n2⟩ := id hM
  obtain ⟨t6, tP⟩ := id hT
  refine z_aload_n C dX3_clear_0 rfl ?_
  refine z_gI C (ci := 3) (k := 2) rfl (by decide) rfl (by decide) wl_3 wq_25_16 rfl dX3_clear_1 (by assumption) ?_
  rw [PM_b]
  refine z_istore_n C dX3_clear_4 (by decide) rfl ?_
  refine z_aload_n C dX3_clear_5 rfl ?_
  refine z_iconst C dX3_clear_6 ?_
  refine z_pI C (ci := 3) (k := 2) rfl (by decide) rfl (by decide) tyX3_ok nmX3 wl_3 wq_25_16 rfl (Or.inl rfl) dX3_clear_7 (by assumption) ?_
  refine z_iload_n C dX3_clear_10 rfl ?_
  exact z_iret2 C hQ rfl dX3_clear_11 ⟨rfl, rfl, rfl, rfl, PM_g _ _ _ _ _ _, rfl⟩
set_option maxHeartbeats 4000000 in
set_option maxRecDepth 100000 in
theorem nX3_rewind (l : Launch) (G : GG) {z : Nat} {K N : Nat → Nat} {I : MI} {R : MR} {b : Nat} (hM : ShP G z K N R b) {nu g : Nat → Int} (hT : POk (I (b + 2)) (g 2))  : Cod l G yX3_rewind (Cond.code yX3_rewind cX3_rewind 1 none :: wsL_law) ⟨0, 0, 0, 0⟩ [.ref b] z K N (PM I b nu g) R none (PM I b nu (st1 g 4 0)) R := by
  refine Con.of (own := RX3) (cc := cX3_rewind) (maxL := 1) (ret := none) (by decide +kernel) rfl rfl (Nat.le_of_ble_eq_true rfl) (by decide) rfl ?_
  intro p e9 s mt args below meth c Q hin hQ C
  obtain ⟨ho, ⟨r0, r3⟩, ⟨k1, k2⟩, n1, n2⟩ := id hM
  obtain ⟨t6, tP⟩ := id hT
  refine z_aload_n C dX3_rewind_0 rfl ?_
  refine z_iconst C dX3_rewind_1 ?_
  refine z_pI C (ci := 3) (k := 4) rfl (by decide) rfl (by decide) tyX3_ok nmX3 wl_3 wq_27_0 rfl (Or.inl rfl) dX3_rewind_2 (by assumption) ?_
  exact z_vret2 C hQ rfl dX3_rewind_5 ⟨rfl, rfl, rfl, rfl, PM_g _ _ _ _ _ _, rfl⟩
set_option maxHeartbeats 4000000 in
set_option maxRecDepth 100000 in
theorem nX3_append (l : Launch) (G : GG) {z : Nat} {K N : Nat → Nat} {I : MI} {R : MR} {b : Nat} (hM : ShP G z K N R b) {nu g : Nat → Int} (hT : POk (I (b + 2)) (g 2)) {n : Nat} (hn : n < 2 ^ 64) : Cod l G yX3_append (Cond.code yX3_append cX3_append 5 (some .int) :: wsL_law) ⟨1, 0, 0, 24⟩ [.ref b, .long (zU n)] z K N (PM I b nu g) R (some (.int (zI (if putBad n then -2 else if 80 < g 2 + (putK n : Int) then -4 else g 2 + (putK n : Int))))) (if ¬ putBad n ∧ g 2 + (putK n : Int) ≤ 80 then apM I b nu g n (putK n) 0 else (PM I b nu g)) R := by
  refine Con.of (own := RX3) (cc := cX3_append) (maxL := 5) (ret := (some .int)) (by decide +kernel) rfl rfl (Nat.le_of_ble_eq_true rfl) (by decide) rfl ?_
  intro p e9 s mt args below meth c Q hin hQ C
  obtain ⟨ho, ⟨r0, r3⟩, ⟨k1, k2⟩, n1, n2⟩ := id hM
  obtain ⟨t6, tP⟩ := id hT
  have hK8 : putK n ≤ 8 := lenB_le n 8 0
  have hloop : ∀ (k : Nat), ¬ putBad n → putK n = k → g 2 + (k : Int) ≤ 80 → k ≤ 8 → ∀ (q : Nat) (j : Nat), j ≤ k → j < q → Zq p l e9 ⟨1, 0, 0, 24⟩ s mt args below meth c G 5 Q 0 0 z K N (apM I b nu g n k j) R 31 [(0, .ref b), (1, .long (zU n)), (3, .int (zI (k : Int))), (4, .int (zI ((j : Int) - 1)))] [] := by
    intro k hbad hkk hcase hk8 q
    induction q with
    | zero => intro j h1 h2; exact absurd h2 (by omega)
    | succ q ih =>
      intro j h1 h2
      refine z_iload C dX3_append_31 rfl ?_
      refine z_if_lt C (tgt := 74) dX3_append_33 (by decide) (by first | omega | exact b2i_r) (fun h33 => ?_) (fun h33 => ?_)
      · refine z_aload_n C dX3_append_74 rfl ?_
        refine z_gI C (ci := 3) (k := 2) rfl (by decide) rfl (by decide) wl_3 wq_25_16 rfl dX3_append_75 (by assumption) ?_
        rw [show j = 0 by omega, apM_b]
        exact z_iret2 C hQ rfl dX3_append_78 ⟨zr (by rw [if_neg hbad, hkk, if_neg (by omega)]; omega), rfl, rfl, rfl, by rw [if_pos ⟨hbad, by rw [hkk]; exact hcase⟩, hkk], rfl⟩
      · have hj1 : 1 ≤ j := by omega
        obtain ⟨j, rfl⟩ : ∃ i, j = i + 1 := ⟨j - 1, by omega⟩
        have hb8 := by8_lt n j
        have hdn : n / 2 ^ (8 * j) ≤ n := Nat.div_le_self _ _
        rw [show (((j + 1 : Nat) : Int) - 1) = (j : Int) by omega]
        refine z_aload_n C dX3_append_36 rfl ?_
        refine z_gR C (ci := 3) (k := 3) rfl (by decide) rfl (by decide) wl_3 wq_3_22 (by decide) dX3_append_37 (by assumption) (by assumption) ?_
        refine z_aload_n C dX3_append_40 rfl ?_
        refine z_gI C (ci := 3) (k := 2) rfl (by decide) rfl (by decide) wl_3 wq_25_16 rfl dX3_append_41 (by assumption) ?_
        rw [apM_b]
        refine z_lload_n C dX3_append_44 rfl ?_
        refine z_bipush C dX3_append_45 (by decide) ?_
        refine z_iload C dX3_append_47 rfl ?_
        refine z_imul C dX3_append_49 ?_
        rw [show (8 : Int) * (j : Int) = ((8 * j : Nat) : Int) by omega]
        refine z_lushr C (by omega) (by omega) dX3_append_50 ?_
        refine z_ldc2 C 255 (by decide) dX3_append_51 wq_25_17 ?_
        refine z_land C 8 rfl (by decide) (by omega) dX3_append_54 ?_
        rw [show n / 2 ^ (8 * j) % 2 ^ 8 = by8 n j from rfl]
        refine z_l2i C (by omega) dX3_append_55 ?_
        refine z_i2c C (by omega) dX3_append_56 ?_
        refine z_castk C ((g 2).toNat + (k - (j + 1))) dX3_append_57 (by assumption) (by first | rfl | omega) (by omega) (by omega) (by omega) ?_
        refine z_aload_n C dX3_append_58 rfl ?_
        refine z_dup C dX3_append_59 rfl ?_
        refine z_gI C (ci := 3) (k := 2) rfl (by decide) rfl (by decide) wl_3 wq_25_16 rfl dX3_append_60 (by assumption) ?_
        rw [u2_row (by omega), apM_b]
        refine z_iconst C dX3_append_63 ?_
        refine z_iadd C dX3_append_64 ?_
        refine z_pI C (ci := 3) (k := 2) rfl (by decide) rfl (by decide) tyX3_ok nmX3 wl_3 wq_25_16 rfl (Or.inl rfl) dX3_append_65 (by assumption) ?_
        refine z_iinc C dX3_append_68 rfl (by decide) rfl ?_
        refine z_goto C (tgt := 31) dX3_append_71 (by decide) ?_
        rw [show (j : Int) + -1 = (j : Int) - 1 by omega]
        exact z_mem (apM_s I b nu g n k j (by omega)) rfl (ih j (by omega) (by omega))
  refine z_lload_n C dX3_append_0 rfl ?_
  refine z_callSd C (mX3_howMany l G hn) (va_cwS 1 C.2.2.2.2.1 gv3_19 rfl rfl rfl hs_X3_howMany ⟨Nat.le_of_ble_eq_true rfl, Nat.le_of_ble_eq_true rfl⟩) rfl rfl (Nat.le_of_ble_eq_true rfl) dX3_append_1 ⟨Nat.zero_le _, Nat.zero_le _⟩ ?_
  obtain ⟨m9, hm9⟩ : ∃ m9 : Nat, hoM n = (m9 : Int) := by
    unfold hoM
    split
    · exact ⟨0, rfl⟩
    · exact ⟨_, rfl⟩
  rw [hm9]
  have hm8 : (putBad n ∧ m9 = 0) ∨ (¬ putBad n ∧ putK n = m9) := by
    by_cases z : putBad n
    · have h9 : hoM n = 0 := if_pos z
      exact Or.inl ⟨z, by omega⟩
    · have h9 : hoM n = (putK n : Int) := if_neg z
      exact Or.inr ⟨z, by omega⟩
  refine z_istore_n C dX3_append_4 (by decide) rfl ?_
  refine z_iload_n C dX3_append_5 rfl ?_
  refine z_if_ne C (tgt := 12) dX3_append_6 (by decide) (by first | omega | exact b2i_r) (fun h6 => ?_) (fun h6 => ?_)
  · have hbad : ¬ putBad n := by
      rcases hm8 with z | z
      · exfalso; omega
      · exact z.1
    have hkk : putK n = m9 := by
      rcases hm8 with z | z
      · exact absurd z.1 hbad
      · exact z.2
    refine z_aload_n C dX3_append_12 rfl ?_
    refine z_gI C (ci := 3) (k := 2) rfl (by decide) rfl (by decide) wl_3 wq_25_16 rfl dX3_append_13 (by assumption) ?_
    rw [PM_b]
    refine z_iload_n C dX3_append_16 rfl ?_
    refine z_iadd C dX3_append_17 ?_
    refine z_bipush C dX3_append_18 (by decide) ?_
    refine z_icmp_le C (tgt := 26) dX3_append_20 (by decide) (by first | omega | exact b2i_r) (by first | omega | exact b2i_r) (fun h20 => ?_) (fun h20 => ?_)
    · refine z_iload_n C dX3_append_26 rfl ?_
      refine z_iconst C dX3_append_27 ?_
      refine z_isub C dX3_append_28 ?_
      refine z_istore C dX3_append_29 (by decide) rfl ?_
      refine z_conv (I' := apM I b nu g n m9 m9) (lv' := [(0, .ref b), (1, .long (zU n)), (3, .int (zI (m9 : Int))), (4, .int (zI ((m9 : Int) - 1)))]) (apM_0 _ _ _ _ _ _).symm rfl rfl rfl ?_
      exact hloop m9 hbad hkk (by omega) (by omega) (m9 + 1) m9 (Nat.le_refl m9) (by omega)
    · have hI9 : ¬ (¬ putBad n ∧ g 2 + (putK n : Int) ≤ 80) := fun z => by have := z.2; rw [hkk] at this; omega
      refine z_bipush C dX3_append_23 (by decide) ?_
      exact z_iret2 C hQ rfl dX3_append_25 ⟨zr (by first | exact (if_pos hbad).symm | (rw [if_neg hbad, hkk, if_pos (by omega)])), rfl, rfl, rfl, (if_neg hI9).symm, rfl⟩
  · have hbad : putBad n := by
      rcases hm8 with z | z
      · exact z.1
      · exact Or.inl (by omega)
    have hI9 : ¬ (¬ putBad n ∧ g 2 + (putK n : Int) ≤ 80) := fun z => z.1 hbad
    refine z_bipush C dX3_append_9 (by decide) ?_
    exact z_iret2 C hQ rfl dX3_append_11 ⟨zr (by first | exact (if_pos hbad).symm | (rw [if_neg hbad, hkk, if_pos (by omega)])), rfl, rfl, rfl, (if_neg hI9).symm, rfl⟩
set_option maxHeartbeats 4000000 in
set_option maxRecDepth 100000 in
theorem nX3_findFault (l : Launch) (G : GG) {z : Nat} {K N : Nat → Nat} {I : MI} {R : MR} {b : Nat} (hM : ShP G z K N R b) {nu g : Nat → Int} (hT : POk (I (b + 2)) (g 2))  : Cod l G yX3_findFault (Cond.code yX3_findFault cX3_findFault 3 (some .int) :: wsL_law) ⟨4, 0, 0, 85⟩ [.ref b] z K N (PM I b nu g) R (some (.int (zI (if ¬ (fcE (I (b + 2)) nu g).1 = 0 ∧ (fcE (I (b + 2)) nu g).2.2 4 = (fcE (I (b + 2)) nu g).2.2 2 then -6 else (fcE (I (b + 2)) nu g).2.2 4)))) (PM I b (fcE (I (b + 2)) nu g).2.1 (fcE (I (b + 2)) nu g).2.2) R := by
  refine Con.of (own := RX3) (cc := cX3_findFault) (maxL := 3) (ret := (some .int)) (by decide +kernel) rfl rfl (Nat.le_of_ble_eq_true rfl) (by decide) rfl ?_
  intro p e9 s mt args below meth c Q hin hQ C
  obtain ⟨ho, ⟨r0, r3⟩, ⟨k1, k2⟩, n1, n2⟩ := id hM
  obtain ⟨t6, tP⟩ := id hT
  have hloop : ∀ (q : Nat) (i : Nat) (B9 : Int) (n2 w : Nat → Int), i ≤ 80 → 80 - i < q → TOk (I (b + 2)) (md w) → 0 ≤ B9 ∧ B9 ≤ 1 → fcL (I (b + 2)) (80 - i) (B9, n2, w) = (fcE (I (b + 2)) nu g) → Zq p l e9 ⟨4, 0, 0, 85⟩ s mt args below meth c G 3 Q 0 0 z K N (PM I b n2 w) R 11 [(0, .ref b), (1, .int (zI B9)), (2, .int (zI (i : Int)))] [] := by
    intro q
    induction q with
    | zero => intro i B9 n2 w h1 h2; exact absurd h2 (by omega)
    | succ q ih =>
      intro i B9 n2 w h1 h2 hTw hB9 he
      have w6 := hTw.1
      have w11 := hTw.2.2
      rw [md_6] at w6 w11
      rw [md_11] at w11
      have hnb := noB_01 (I (b + 2)) w
      refine z_iload_n C dX3_findFault_11 rfl ?_
      refine z_bipush C dX3_findFault_12 (by decide) ?_
      refine z_icmp_ge C (tgt := 43) dX3_findFault_14 (by decide) (by first | omega | exact b2i_r) (by first | omega | exact b2i_r) (fun h14 => ?_) (fun h14 => ?_)
      · have hst : (B9, n2, w) = (fcE (I (b + 2)) nu g) := by
          rw [← he]
          first
          | (rw [show 80 - i = 0 by omega]; rfl)
          | exact (fcL_0 _ _ _ (fun z => by have z1 : ¬ B9 = 0 := z.1; have z2 : w 4 < w 2 := z.2; omega)).symm
        have ha1 : B9 = (fcE (I (b + 2)) nu g).1 := congrArg (fun x => x.1) hst
        have ha2 : n2 = (fcE (I (b + 2)) nu g).2.1 := congrArg (fun x => x.2.1) hst
        have ha3 : w = (fcE (I (b + 2)) nu g).2.2 := congrArg (fun x => x.2.2) hst
        refine z_iload_n C dX3_findFault_43 rfl ?_
        refine z_if_eq C (tgt := 63) dX3_findFault_44 (by decide) (by first | omega | exact b2i_r) (fun h44 => ?_) (fun h44 => ?_)
        · refine z_aload_n C dX3_findFault_63 rfl ?_
          refine z_gI C (ci := 3) (k := 4) rfl (by decide) rfl (by decide) wl_3 wq_27_0 rfl dX3_findFault_64 (by assumption) ?_
          try rw [PM_b]
          exact z_iret2 C hQ rfl dX3_findFault_67 ⟨zr (by rw [← ha1, ← ha3]; first | (rw [if_pos (by omega)]; done) | rw [if_neg (by omega)]), rfl, rfl, rfl, by rw [← ha2, ← ha3], rfl⟩
        · refine z_aload_n C dX3_findFault_47 rfl ?_
          refine z_gI C (ci := 3) (k := 4) rfl (by decide) rfl (by decide) wl_3 wq_27_0 rfl dX3_findFault_48 (by assumption) ?_
          rw [PM_b]
          refine z_aload_n C dX3_findFault_51 rfl ?_
          refine z_gI C (ci := 3) (k := 2) rfl (by decide) rfl (by decide) wl_3 wq_25_16 rfl dX3_findFault_52 (by assumption) ?_
          rw [PM_b]
          refine z_icmp_ne C (tgt := 63) dX3_findFault_55 (by decide) (by first | omega | exact b2i_r) (by first | omega | exact b2i_r) (fun h55 => ?_) (fun h55 => ?_)
          · refine z_aload_n C dX3_findFault_63 rfl ?_
            refine z_gI C (ci := 3) (k := 4) rfl (by decide) rfl (by decide) wl_3 wq_27_0 rfl dX3_findFault_64 (by assumption) ?_
            try rw [PM_b]
            exact z_iret2 C hQ rfl dX3_findFault_67 ⟨zr (by rw [← ha1, ← ha3]; first | (rw [if_pos (by omega)]; done) | rw [if_neg (by omega)]), rfl, rfl, rfl, by rw [← ha2, ← ha3], rfl⟩
          · refine z_bipush C dX3_findFault_58 (by decide) ?_
            refine z_goto C (tgt := 67) dX3_findFault_60 (by decide) ?_
            try rw [PM_b]
            exact z_iret2 C hQ rfl dX3_findFault_67 ⟨zr (by rw [← ha1, ← ha3]; first | (rw [if_pos (by omega)]; done) | rw [if_neg (by omega)]), rfl, rfl, rfl, by rw [← ha2, ← ha3], rfl⟩
      · refine z_iload_n C dX3_findFault_17 rfl ?_
        refine z_if_eq C (tgt := 43) dX3_findFault_18 (by decide) (by first | omega | exact b2i_r) (fun h18 => ?_) (fun h18 => ?_)
        · have hst : (B9, n2, w) = (fcE (I (b + 2)) nu g) := by
            rw [← he]
            first
            | (rw [show 80 - i = 0 by omega]; rfl)
            | exact (fcL_0 _ _ _ (fun z => by have z1 : ¬ B9 = 0 := z.1; have z2 : w 4 < w 2 := z.2; omega)).symm
          have ha1 : B9 = (fcE (I (b + 2)) nu g).1 := congrArg (fun x => x.1) hst
          have ha2 : n2 = (fcE (I (b + 2)) nu g).2.1 := congrArg (fun x => x.2.1) hst
          have ha3 : w = (fcE (I (b + 2)) nu g).2.2 := congrArg (fun x => x.2.2) hst
          refine z_iload_n C dX3_findFault_43 rfl ?_
          refine z_if_eq C (tgt := 63) dX3_findFault_44 (by decide) (by first | omega | exact b2i_r) (fun h44 => ?_) (fun h44 => ?_)
          · refine z_aload_n C dX3_findFault_63 rfl ?_
            refine z_gI C (ci := 3) (k := 4) rfl (by decide) rfl (by decide) wl_3 wq_27_0 rfl dX3_findFault_64 (by assumption) ?_
            try rw [PM_b]
            exact z_iret2 C hQ rfl dX3_findFault_67 ⟨zr (by rw [← ha1, ← ha3]; first | (rw [if_pos (by omega)]; done) | rw [if_neg (by omega)]), rfl, rfl, rfl, by rw [← ha2, ← ha3], rfl⟩
          · refine z_aload_n C dX3_findFault_47 rfl ?_
            refine z_gI C (ci := 3) (k := 4) rfl (by decide) rfl (by decide) wl_3 wq_27_0 rfl dX3_findFault_48 (by assumption) ?_
            rw [PM_b]
            refine z_aload_n C dX3_findFault_51 rfl ?_
            refine z_gI C (ci := 3) (k := 2) rfl (by decide) rfl (by decide) wl_3 wq_25_16 rfl dX3_findFault_52 (by assumption) ?_
            rw [PM_b]
            refine z_icmp_ne C (tgt := 63) dX3_findFault_55 (by decide) (by first | omega | exact b2i_r) (by first | omega | exact b2i_r) (fun h55 => ?_) (fun h55 => ?_)
            · refine z_aload_n C dX3_findFault_63 rfl ?_
              refine z_gI C (ci := 3) (k := 4) rfl (by decide) rfl (by decide) wl_3 wq_27_0 rfl dX3_findFault_64 (by assumption) ?_
              try rw [PM_b]
              exact z_iret2 C hQ rfl dX3_findFault_67 ⟨zr (by rw [← ha1, ← ha3]; first | (rw [if_pos (by omega)]; done) | rw [if_neg (by omega)]), rfl, rfl, rfl, by rw [← ha2, ← ha3], rfl⟩
            · refine z_bipush C dX3_findFault_58 (by decide) ?_
              refine z_goto C (tgt := 67) dX3_findFault_60 (by decide) ?_
              try rw [PM_b]
              exact z_iret2 C hQ rfl dX3_findFault_67 ⟨zr (by rw [← ha1, ← ha3]; first | (rw [if_pos (by omega)]; done) | rw [if_neg (by omega)]), rfl, rfl, rfl, by rw [← ha2, ← ha3], rfl⟩
        · refine z_aload_n C dX3_findFault_21 rfl ?_
          refine z_gI C (ci := 3) (k := 4) rfl (by decide) rfl (by decide) wl_3 wq_27_0 rfl dX3_findFault_22 (by assumption) ?_
          rw [PM_b]
          refine z_aload_n C dX3_findFault_25 rfl ?_
          refine z_gI C (ci := 3) (k := 2) rfl (by decide) rfl (by decide) wl_3 wq_25_16 rfl dX3_findFault_26 (by assumption) ?_
          rw [PM_b]
          refine z_icmp_ge C (tgt := 43) dX3_findFault_29 (by decide) (by first | omega | exact b2i_r) (by first | omega | exact b2i_r) (fun h29 => ?_) (fun h29 => ?_)
          · have hst : (B9, n2, w) = (fcE (I (b + 2)) nu g) := by
              rw [← he]
              first
              | (rw [show 80 - i = 0 by omega]; rfl)
              | exact (fcL_0 _ _ _ (fun z => by have z1 : ¬ B9 = 0 := z.1; have z2 : w 4 < w 2 := z.2; omega)).symm
            have ha1 : B9 = (fcE (I (b + 2)) nu g).1 := congrArg (fun x => x.1) hst
            have ha2 : n2 = (fcE (I (b + 2)) nu g).2.1 := congrArg (fun x => x.2.1) hst
            have ha3 : w = (fcE (I (b + 2)) nu g).2.2 := congrArg (fun x => x.2.2) hst
            refine z_iload_n C dX3_findFault_43 rfl ?_
            refine z_if_eq C (tgt := 63) dX3_findFault_44 (by decide) (by first | omega | exact b2i_r) (fun h44 => ?_) (fun h44 => ?_)
            · refine z_aload_n C dX3_findFault_63 rfl ?_
              refine z_gI C (ci := 3) (k := 4) rfl (by decide) rfl (by decide) wl_3 wq_27_0 rfl dX3_findFault_64 (by assumption) ?_
              try rw [PM_b]
              exact z_iret2 C hQ rfl dX3_findFault_67 ⟨zr (by rw [← ha1, ← ha3]; first | (rw [if_pos (by omega)]; done) | rw [if_neg (by omega)]), rfl, rfl, rfl, by rw [← ha2, ← ha3], rfl⟩
            · refine z_aload_n C dX3_findFault_47 rfl ?_
              refine z_gI C (ci := 3) (k := 4) rfl (by decide) rfl (by decide) wl_3 wq_27_0 rfl dX3_findFault_48 (by assumption) ?_
              rw [PM_b]
              refine z_aload_n C dX3_findFault_51 rfl ?_
              refine z_gI C (ci := 3) (k := 2) rfl (by decide) rfl (by decide) wl_3 wq_25_16 rfl dX3_findFault_52 (by assumption) ?_
              rw [PM_b]
              refine z_icmp_ne C (tgt := 63) dX3_findFault_55 (by decide) (by first | omega | exact b2i_r) (by first | omega | exact b2i_r) (fun h55 => ?_) (fun h55 => ?_)
              · refine z_aload_n C dX3_findFault_63 rfl ?_
                refine z_gI C (ci := 3) (k := 4) rfl (by decide) rfl (by decide) wl_3 wq_27_0 rfl dX3_findFault_64 (by assumption) ?_
                try rw [PM_b]
                exact z_iret2 C hQ rfl dX3_findFault_67 ⟨zr (by rw [← ha1, ← ha3]; first | (rw [if_pos (by omega)]; done) | rw [if_neg (by omega)]), rfl, rfl, rfl, by rw [← ha2, ← ha3], rfl⟩
              · refine z_bipush C dX3_findFault_58 (by decide) ?_
                refine z_goto C (tgt := 67) dX3_findFault_60 (by decide) ?_
                try rw [PM_b]
                exact z_iret2 C hQ rfl dX3_findFault_67 ⟨zr (by rw [← ha1, ← ha3]; first | (rw [if_pos (by omega)]; done) | rw [if_neg (by omega)]), rfl, rfl, rfl, by rw [← ha2, ← ha3], rfl⟩
          · rw [show 80 - i = (80 - (i + 1)) + 1 by omega, fcL_s, if_pos (show ¬ B9 = 0 ∧ w 4 < w 2 from ⟨by omega, by omega⟩)] at he
            refine z_aload_n C dX3_findFault_32 rfl ?_
            refine z_callVd C (ci := 3) rfl (by decide) (by first | assumption | (exact hM.1)) (mX3_nextOrder l G hM hTw) (cwV 0 C.2.2.2.2.1 gv3_36 rfl rfl rfl hd_X3_nextOrder ⟨Nat.le_of_ble_eq_true rfl, Nat.le_of_ble_eq_true rfl⟩) rfl rfl (Nat.le_of_ble_eq_true rfl) dX3_findFault_33 ⟨Nat.zero_le _, Nat.zero_le _⟩ ?_
            refine z_istore_n C dX3_findFault_36 (by decide) rfl ?_
            refine z_iinc C dX3_findFault_37 rfl (by decide) rfl ?_
            refine z_goto C (tgt := 11) dX3_findFault_40 (by decide) ?_
            rw [show (i : Int) + 1 = ((i + 1 : Nat) : Int) by omega]
            exact ih (i + 1) _ _ _ (by omega) (by omega) hTw.e_noG hnb he
  refine z_aload_n C dX3_findFault_0 rfl ?_
  refine z_callVd C (ci := 3) rfl (by decide) (by first | assumption | (exact hM.1)) (nX3_rewind l G hM hT) (cwV 0 C.2.2.2.2.1 gv3_33 rfl rfl rfl hd_X3_rewind ⟨Nat.le_of_ble_eq_true rfl, Nat.le_of_ble_eq_true rfl⟩) rfl rfl (Nat.le_of_ble_eq_true rfl) dX3_findFault_1 ⟨Nat.zero_le _, Nat.zero_le _⟩ ?_
  refine z_aload_n C dX3_findFault_4 rfl ?_
  refine z_callVd C (ci := 3) rfl (by decide) (by first | assumption | (exact hM.1)) (mX3_nextOrder l G hM hT.z4) (cwV 0 C.2.2.2.2.1 gv3_36 rfl rfl rfl hd_X3_nextOrder ⟨Nat.le_of_ble_eq_true rfl, Nat.le_of_ble_eq_true rfl⟩) rfl rfl (Nat.le_of_ble_eq_true rfl) dX3_findFault_5 ⟨Nat.zero_le _, Nat.zero_le _⟩ ?_
  refine z_istore_n C dX3_findFault_8 (by decide) rfl ?_
  refine z_iconst C dX3_findFault_9 ?_
  refine z_istore_n C dX3_findFault_10 (by decide) rfl ?_
  exact hloop 80 1 _ _ _ (by omega) (by omega) hT.z4.e_noG (noB_01 _ _) rfl
set_option maxHeartbeats 4000000 in
set_option maxRecDepth 100000 in
theorem nX7_findFault (l : Launch) (G : GG) {z : Nat} {K N : Nat → Nat} {I : MI} {R : MR} {o : Nat} (hM : ShM G z K N R o) {f : Nat → Int} (hT : POk (I (o + 5)) (f 6))  : Cod l G yX7_findFault (Cond.code yX7_findFault cX7_findFault 1 (some .int) :: wsL_law) ⟨5, 0, 0, 106⟩ [.ref o] z K N (va_up I o f) R (some (.int (zI (ffV (I (o + 5)) f)))) (va_up I o (ffF (I (o + 5)) f)) R := by
  refine Con.of (own := RX7) (cc := cX7_findFault) (maxL := 1) (ret := (some .int)) (by decide +kernel) rfl rfl (Nat.le_of_ble_eq_true rfl) (by decide) rfl ?_
  intro p e9 s mt args below meth c Q hin hQ C
  obtain ⟨ho, ⟨r0, r1, r3, r4, r5, r7, r8⟩, ⟨k1, k2, k3, k4, k5, k6, k7⟩, n1, n2, n3, n4, n5, n6, n7⟩ := id hM
  obtain ⟨t6, tP⟩ := id hT
  have hloop : ∀ (q : Nat) (g : Nat → Int), TOk (I (o + 5)) g → g 6 - g 11 < q → ffL (I (o + 5)) (q + 1) g = ffL (I (o + 5)) 82 (st1 f 11 0) → Zq p l e9 ⟨5, 0, 0, 106⟩ s mt args below meth c G 1 Q 0 0 z K N (va_up I o g) R 5 [(0, .ref o)] [] := by
    intro q
    induction q with
    | zero => intro g hg hq he; exact absurd hq (by have := hg.2.2; omega)
    | succ q ih =>
      intro g hg hq he
      have g1 := hg.ro
      have g2 := Fwd.ro (I (o + 5)) g
      have g3 := Fwd.nx (I (o + 5)) (roF (I (o + 5)) g) 59
      have g4 := g1.nx (w := 59) (by omega)
      have r6 := g1.1
      have r11 := g1.2.2
      have t6g := hg.1
      have t11g := hg.2.2
      refine z_aload_n C dX7_findFault_5 rfl ?_
      refine z_callVd C (ci := 7) rfl (by decide) (by first | assumption | (exact hM.1)) (mX7_readsOrder l G (I := I) hM hg) (cwV 0 C.2.2.2.2.1 gv7_202 rfl rfl rfl hd_X7_readsOrder ⟨Nat.le_of_ble_eq_true rfl, Nat.le_of_ble_eq_true rfl⟩) rfl rfl (Nat.le_of_ble_eq_true rfl) dX7_findFault_6 ⟨Nat.zero_le _, Nat.zero_le _⟩ ?_
      have hr01 := roB_01 (I (o + 5)) g
      refine z_if_ne C (tgt := 17) dX7_findFault_9 (by decide) (by first | omega | exact b2i_r) (fun h9 => ?_) (fun h9 => ?_)
      · rw [ffL_s, if_neg h9] at he
        refine z_aload_n C dX7_findFault_17 rfl ?_
        refine z_gI C (ci := 7) (k := 11) rfl (by decide) rfl (by decide) wl_7 wq_28_17 rfl dX7_findFault_18 (by assumption) ?_
        rw [va_up_s]
        refine z_aload_n C dX7_findFault_21 rfl ?_
        refine z_gI C (ci := 7) (k := 6) rfl (by decide) rfl (by decide) wl_7 wq_22_5 rfl dX7_findFault_22 (by assumption) ?_
        rw [va_up_s]
        refine z_icmp_ne C (tgt := 31) dX7_findFault_25 (by decide) (by first | omega | exact b2i_r) (by first | omega | exact b2i_r) (fun h25 => ?_) (fun h25 => ?_)
        · rw [if_neg h25] at he
          refine z_aload_n C dX7_findFault_31 rfl ?_
          refine z_bipush C dX7_findFault_32 (by decide) ?_
          refine z_callVd C (ci := 7) rfl (by decide) (by first | assumption | (exact hM.1)) (mX7_isNext l G (I := I) hM g1 (w := 59) (by omega)) (cwV 1 C.2.2.2.2.1 gv7_180 rfl rfl rfl hd_X7_isNext ⟨Nat.le_of_ble_eq_true rfl, Nat.le_of_ble_eq_true rfl⟩) rfl rfl (Nat.le_of_ble_eq_true rfl) dX7_findFault_34 ⟨Nat.zero_le _, Nat.zero_le _⟩ ?_
          have hn01 := nx_01 (I (o + 5)) (roF (I (o + 5)) g) 59
          refine z_if_ne C (tgt := 5) dX7_findFault_37 (by decide) (by first | omega | exact b2i_r) (fun h37 => ?_) (fun h37 => ?_)
          · rw [if_neg h37] at he
            have hnx : nxF (I (o + 5)) (roF (I (o + 5)) g) 59 11 = roF (I (o + 5)) g 11 + nxB (I (o + 5)) (roF (I (o + 5)) g) 59 := by unfold nxF atS; rw [st1_s]
            refine ih _ g4 ?_ he
            have e1 := g2.1
            have e2 := g2.2.1
            have e3 := g3.1
            omega
          · rw [if_pos (by omega)] at he
            refine z_aload_n C dX7_findFault_40 rfl ?_
            refine z_gI C (ci := 7) (k := 11) rfl (by decide) rfl (by decide) wl_7 wq_28_17 rfl dX7_findFault_41 (by assumption) ?_
            rw [va_up_s]
            exact z_iret2 C hQ rfl dX7_findFault_44 ⟨zr (congrArg Prod.fst he), rfl, rfl, rfl, congrArg (fun x => va_up I o x.2) he, rfl⟩
        · rw [if_pos h25] at he
          refine z_bipush C dX7_findFault_28 (by decide) ?_
          exact z_iret2 C hQ rfl dX7_findFault_30 ⟨zr (congrArg Prod.fst he), rfl, rfl, rfl, congrArg (fun x => va_up I o x.2) he, rfl⟩
      · rw [ffL_s, if_pos (by omega)] at he
        refine z_aload_n C dX7_findFault_12 rfl ?_
        refine z_gI C (ci := 7) (k := 11) rfl (by decide) rfl (by decide) wl_7 wq_28_17 rfl dX7_findFault_13 (by assumption) ?_
        rw [va_up_s]
        exact z_iret2 C hQ rfl dX7_findFault_16 ⟨zr (congrArg Prod.fst he), rfl, rfl, rfl, congrArg (fun x => va_up I o x.2) he, rfl⟩
  refine z_aload_n C dX7_findFault_0 rfl ?_
  refine z_iconst C dX7_findFault_1 ?_
  refine z_pI C (ci := 7) (k := 11) rfl (by decide) rfl (by decide) tyX7_ok nmX7 wl_7 wq_28_17 rfl (Or.inl rfl) dX7_findFault_2 (by assumption) ?_
  rw [u2_vst]
  have hT0 : TOk (I (o + 5)) (st1 f 11 0) := ⟨by rw [st1_n (by omega)]; exact t6, tP, by rw [st1_s, st1_n (by omega)]; omega⟩
  exact hloop 81 _ hT0 (by rw [st1_s, st1_n (by omega)]; omega) rfl
set_option maxHeartbeats 4000000 in
set_option maxRecDepth 100000 in
theorem nX7_fault (l : Launch) (G : GG) {z : Nat} {K N : Nat → Nat} {I : MI} {R : MR} {o : Nat} (hM : ShM G z K N R o) {f : Nat → Int} (hT : POk (I (o + 5)) (f 6))  : Cod l G yX7_fault (Cond.code yX7_fault cX7_fault 1 (some .int) :: wsL_law) ⟨6, 0, 0, 126⟩ [.ref o] z K N (va_up I o f) R (some (.int (zI (ffV (I (o + 5)) f)))) (va_up I o (ffF (I (o + 5)) f)) R := by
  refine Con.of (own := RX7) (cc := cX7_fault) (maxL := 1) (ret := (some .int)) (by decide +kernel) rfl rfl (Nat.le_of_ble_eq_true rfl) (by decide) rfl ?_
  intro p e9 s mt args below meth c Q hin hQ C
  obtain ⟨ho, ⟨r0, r1, r3, r4, r5, r7, r8⟩, ⟨k1, k2, k3, k4, k5, k6, k7⟩, n1, n2, n3, n4, n5, n6, n7⟩ := id hM
  obtain ⟨t6, tP⟩ := id hT
  refine z_aload_n C dX7_fault_0 rfl ?_
  refine z_callVd C (ci := 7) rfl (by decide) (by first | assumption | (exact hM.1)) (nX7_findFault l G (I := I) hM hT) (cwV 0 C.2.2.2.2.1 gv7_205 rfl rfl rfl hd_X7_findFault ⟨Nat.le_of_ble_eq_true rfl, Nat.le_of_ble_eq_true rfl⟩) rfl rfl (Nat.le_of_ble_eq_true rfl) dX7_fault_1 ⟨Nat.zero_le _, Nat.zero_le _⟩ ?_
  exact z_iret2 C hQ rfl dX7_fault_4 ⟨rfl, rfl, rfl, rfl, rfl, rfl⟩
set_option maxHeartbeats 4000000 in
set_option maxRecDepth 100000 in
theorem nX7_carryOut (l : Launch) (G : GG) {z : Nat} {K N : Nat → Nat} {I : MI} {R : MR} {o : Nat} (hM : ShM G z K N R o) (hO : Ok (I (o + 1))) (hR : 0 ≤ I o 2 ∧ I o 2 ≤ 6) (hT : POk (I (o + 5)) (I o 6)) (hF : FOk (I o)) : Cod l G yX7_carryOut (Cond.code yX7_carryOut cX7_carryOut 3 (some .int) :: wsL_law) ⟨8, 0, 0, 171⟩ [.ref o] z K N I R (some (.int (zI (if ffV (I (o + 5)) (I o) = -6 then ((coL o 82 (coJ I o) 0).1 : Int) else -3)))) (if ffV (I (o + 5)) (I o) = -6 then u2 (coL o 82 (coJ I o) 0).2 o 6 0 else va_up I o (ffF (I (o + 5)) (I o))) R := by
  refine Con.of (own := RX7) (cc := cX7_carryOut) (maxL := 3) (ret := (some .int)) (by decide +kernel) rfl rfl (Nat.le_of_ble_eq_true rfl) (by decide) rfl ?_
  intro p e9 s mt args below meth c Q hin hQ C
  obtain ⟨ho, ⟨r0, r1, r3, r4, r5, r7, r8⟩, ⟨k1, k2, k3, k4, k5, k6, k7⟩, n1, n2, n3, n4, n5, n6, n7⟩ := id hM
  obtain ⟨a1, a2, a3⟩ := ffV_ok2 hT hF
  have hend : ffV (I (o + 5)) (I o) = -6 → ∀ (n : Nat) (J : MI), n ≤ 90 → (n, J) = coL o 82 (coJ I o) 0 → Zq p l e9 ⟨8, 0, 0, 171⟩ s mt args below meth c G 3 Q 0 0 z K N J R 25 [(0, .ref o), (1, .int (zI (n : Int))), (2, .int (zI 0))] [] := by
    intro hff n J hn9 he
    refine z_iload_n C dX7_carryOut_25 rfl ?_
    refine z_if_eq C (tgt := 79) dX7_carryOut_26 (by decide) (by first | omega | exact b2i_r) (fun h26 => ?_) (fun h26 => ?_)
    · refine z_aload_n C dX7_carryOut_79 rfl ?_
      refine z_iconst C dX7_carryOut_80 ?_
      refine z_pI C (ci := 7) (k := 6) rfl (by decide) rfl (by decide) tyX7_ok nmX7 wl_7 wq_22_5 rfl (Or.inl rfl) dX7_carryOut_81 (by assumption) ?_
      refine z_iload_n C dX7_carryOut_84 rfl ?_
      exact z_iret2 C hQ rfl dX7_carryOut_85 ⟨zr (by rw [if_pos hff]; exact congrArg (fun x : Nat × MI => ((x.1 : Nat) : Int)) he), rfl, rfl, rfl, by rw [if_pos hff]; exact congrArg (fun x : Nat × MI => u2 x.2 o 6 0) he, rfl⟩
    · exfalso; omega
  have hloop : ffV (I (o + 5)) (I o) = -6 → ∀ (q : Nat) (n : Nat) (J : MI), J (o + 5) = I (o + 5) ∧ TOk (J (o + 5)) (J o) ∧ FOk (J o) ∧ Ok (J (o + 1)) ∧ (J o 11 = J o 6 ∨ ∃ q2 : Nat, (ffL (J (o + 5)) q2 (J o)).1 = -6) → J o 6 - J o 11 < q → n + q ≤ 90 → coL o (q + 1) J n = coL o 82 (coJ I o) 0 → Zq p l e9 ⟨8, 0, 0, 171⟩ s mt args below meth c G 3 Q 0 0 z K N J R 25 [(0, .ref o), (1, .int (zI (n : Int))), (2, .int (zI 1))] [] := by
    intro hff q
    induction q with
    | zero =>
      intro n J ⟨c1, c2, c3, c4, c5⟩ hq hn9 he
      have c8 := c2.2.2
      exact absurd hq (by omega)
    | succ q ih =>
      intro n J ⟨c1, c2, c3, c4, c5⟩ hq hn9 he
      have c6 := c2.1
      have c8 := c2.2.2
      refine z_iload_n C dX7_carryOut_25 rfl ?_
      refine z_if_eq C (tgt := 79) dX7_carryOut_26 (by decide) (by first | omega | exact b2i_r) (fun h26 => ?_) (fun h26 => ?_)
      · rw [coL_s, if_neg (by omega)] at he
        refine z_aload_n C dX7_carryOut_79 rfl ?_
        refine z_iconst C dX7_carryOut_80 ?_
        refine z_pI C (ci := 7) (k := 6) rfl (by decide) rfl (by decide) tyX7_ok nmX7 wl_7 wq_22_5 rfl (Or.inl rfl) dX7_carryOut_81 (by assumption) ?_
        refine z_iload_n C dX7_carryOut_84 rfl ?_
        exact z_iret2 C hQ rfl dX7_carryOut_85 ⟨zr (by rw [if_pos hff]; exact congrArg (fun x : Nat × MI => ((x.1 : Nat) : Int)) he), rfl, rfl, rfl, by rw [if_pos hff]; exact congrArg (fun x : Nat × MI => u2 x.2 o 6 0) he, rfl⟩
      · refine z_aload_n C dX7_carryOut_29 rfl ?_
        refine z_gI C (ci := 7) (k := 11) rfl (by decide) rfl (by decide) wl_7 wq_28_17 rfl dX7_carryOut_30 (by assumption) ?_
        refine z_aload_n C dX7_carryOut_33 rfl ?_
        refine z_gI C (ci := 7) (k := 6) rfl (by decide) rfl (by decide) wl_7 wq_22_5 rfl dX7_carryOut_34 (by assumption) ?_
        refine z_icmp_ge C (tgt := 79) dX7_carryOut_37 (by decide) (by first | omega | exact b2i_r) (by first | omega | exact b2i_r) (fun h37 => ?_) (fun h37 => ?_)
        · rw [coL_s, if_neg (by omega)] at he
          refine z_aload_n C dX7_carryOut_79 rfl ?_
          refine z_iconst C dX7_carryOut_80 ?_
          refine z_pI C (ci := 7) (k := 6) rfl (by decide) rfl (by decide) tyX7_ok nmX7 wl_7 wq_22_5 rfl (Or.inl rfl) dX7_carryOut_81 (by assumption) ?_
          refine z_iload_n C dX7_carryOut_84 rfl ?_
          exact z_iret2 C hQ rfl dX7_carryOut_85 ⟨zr (by rw [if_pos hff]; exact congrArg (fun x : Nat × MI => ((x.1 : Nat) : Int)) he), rfl, rfl, rfl, by rw [if_pos hff]; exact congrArg (fun x : Nat × MI => u2 x.2 o 6 0) he, rfl⟩
        · obtain ⟨⟨d1, d2, d3⟩, d4, d5, d6, d7, d8⟩ := co_step (o := o) c2 c3 (show J o 11 < J o 6 by omega) c5
          rw [coL_s, if_pos (show J o 11 < J o 6 by omega)] at he
          refine z_mem (va_upS J o).symm rfl ?_
          refine z_aload_n C dX7_carryOut_40 rfl ?_
          refine z_callVd C (ci := 7) rfl (by decide) (by first | assumption | (exact hM.1)) (mX7_readsOrder l G (I := J) hM c2) (cwV 0 C.2.2.2.2.1 gv7_202 rfl rfl rfl hd_X7_readsOrder ⟨Nat.le_of_ble_eq_true rfl, Nat.le_of_ble_eq_true rfl⟩) rfl rfl (Nat.le_of_ble_eq_true rfl) dX7_carryOut_41 ⟨Nat.zero_le _, Nat.zero_le _⟩ ?_
          refine z_pop C dX7_carryOut_44 rfl ?_
          refine z_aload_n C dX7_carryOut_45 rfl ?_
          refine z_bipush C dX7_carryOut_46 (by decide) ?_
          refine z_callVd C (ci := 7) rfl (by decide) (by first | assumption | (exact hM.1)) (mX7_isNext l G (I := J) hM c2.ro (w := 59) (by omega)) (cwV 1 C.2.2.2.2.1 gv7_180 rfl rfl rfl hd_X7_isNext ⟨Nat.le_of_ble_eq_true rfl, Nat.le_of_ble_eq_true rfl⟩) rfl rfl (Nat.le_of_ble_eq_true rfl) dX7_carryOut_48 ⟨Nat.zero_le _, Nat.zero_le _⟩ ?_
          refine z_mem (I' := cR J o) rfl rfl ?_
          refine z_pop C dX7_carryOut_51 rfl ?_
          refine z_aload_n C dX7_carryOut_52 rfl ?_
          refine z_callVd C (ci := 7) rfl (by decide) (by first | assumption | (exact hM.1)) (mX7_whyNotDone l G hM (by rw [d2]; exact c4) d5) (cwV 0 C.2.2.2.2.1 gv7_208 rfl rfl rfl hd_X7_whyNotDone ⟨Nat.le_of_ble_eq_true rfl, Nat.le_of_ble_eq_true rfl⟩) rfl rfl (Nat.le_of_ble_eq_true rfl) dX7_carryOut_53 ⟨Nat.zero_le _, Nat.zero_le _⟩ ?_
          have hwr : -5 ≤ wnM (cR J o) o ∧ wnM (cR J o) o ≤ 0 := wnP_rng _ _ _ _ _
          refine z_if_ne C (tgt := 63) dX7_carryOut_56 (by decide) (by first | omega | exact b2i_r) (fun h56 => ?_) (fun h56 => ?_)
          · rw [if_neg h56] at he
            refine z_iconst C dX7_carryOut_63 ?_
            refine z_istore_n C dX7_carryOut_64 (by decide) rfl ?_
            refine z_iload_n C dX7_carryOut_65 rfl ?_
            refine z_if_eq C (tgt := 25) dX7_carryOut_66 (by decide) (by first | omega | exact b2i_r) (fun h66 => ?_) (fun h66 => ?_)
            · first
              | (exfalso; omega)
              | exact hend hff n _ (by omega) he
              | (rw [show (n : Int) + 1 = ((n + 1 : Nat) : Int) by omega]
                 refine ih (n + 1) (doM (cR J o) o) ⟨by rw [e3 _ (by omega) (by omega) (by omega) (by omega), d1, c1], ?_, ?_, e1, ?_⟩ ?_ (by omega) he
                 · have f1 := d4
                   rw [e3 _ (by omega) (by omega) (by omega) (by omega), d1]
                   exact ⟨by rw [e2 6 (by omega) (by omega)]; exact f1.1, f1.2.1, by rw [e2 6 (by omega) (by omega), e2 11 (by omega) (by omega)]; exact f1.2.2⟩
                 · intro j j1 j2
                   rw [e2 j (by omega) (by omega)]
                   exact d5 j j1 j2
                 · rw [e2 6 (by omega) (by omega), e2 11 (by omega) (by omega), e3 _ (by omega) (by omega) (by omega) (by omega), d1, d3]
                   rcases d7 with h | ⟨q2, h⟩
                   · exact Or.inl h
                   · exact Or.inr ⟨q2, (Sm.e_ffL q2 _ _ ⟨e2 6 (by omega) (by omega), e2 11 (by omega) (by omega)⟩).trans h⟩
                 · rw [e2 6 (by omega) (by omega), e2 11 (by omega) (by omega), d3]; omega)
            · have h56b : wnM (cR J o) o = 0 := by first | exact h56 | (exfalso; omega)
              have hO9 : Ok (cR J o (o + 1)) := by rw [d2]; exact c4
              obtain ⟨e1, e2, e3⟩ := doM_keep hO9 h56b d8
              refine z_aload_n C dX7_carryOut_69 rfl ?_
              refine z_callVd C (ci := 7) rfl (by decide) (by first | assumption | (exact hM.1)) (mX7_does l G hM hO9 d5 h56b d8) (cwV 0 C.2.2.2.2.1 gv7_211 rfl rfl rfl hd_X7_does ⟨Nat.le_of_ble_eq_true rfl, Nat.le_of_ble_eq_true rfl⟩) rfl rfl (Nat.le_of_ble_eq_true rfl) dX7_carryOut_70 ⟨Nat.zero_le _, Nat.zero_le _⟩ ?_
              refine z_iinc C dX7_carryOut_73 rfl (by decide) rfl ?_
              refine z_goto C (tgt := 25) dX7_carryOut_76 (by decide) ?_
              first
              | (exfalso; omega)
              | exact hend hff n _ (by omega) he
              | (rw [show (n : Int) + 1 = ((n + 1 : Nat) : Int) by omega]
                 refine ih (n + 1) (doM (cR J o) o) ⟨by rw [e3 _ (by omega) (by omega) (by omega) (by omega), d1, c1], ?_, ?_, e1, ?_⟩ ?_ (by omega) he
                 · have f1 := d4
                   rw [e3 _ (by omega) (by omega) (by omega) (by omega), d1]
                   exact ⟨by rw [e2 6 (by omega) (by omega)]; exact f1.1, f1.2.1, by rw [e2 6 (by omega) (by omega), e2 11 (by omega) (by omega)]; exact f1.2.2⟩
                 · intro j j1 j2
                   rw [e2 j (by omega) (by omega)]
                   exact d5 j j1 j2
                 · rw [e2 6 (by omega) (by omega), e2 11 (by omega) (by omega), e3 _ (by omega) (by omega) (by omega) (by omega), d1, d3]
                   rcases d7 with h | ⟨q2, h⟩
                   · exact Or.inl h
                   · exact Or.inr ⟨q2, (Sm.e_ffL q2 _ _ ⟨e2 6 (by omega) (by omega), e2 11 (by omega) (by omega)⟩).trans h⟩
                 · rw [e2 6 (by omega) (by omega), e2 11 (by omega) (by omega), d3]; omega)
          · rw [if_pos h56] at he
            refine z_iconst C dX7_carryOut_59 ?_
            refine z_goto C (tgt := 64) dX7_carryOut_60 (by decide) ?_
            refine z_istore_n C dX7_carryOut_64 (by decide) rfl ?_
            refine z_iload_n C dX7_carryOut_65 rfl ?_
            refine z_if_eq C (tgt := 25) dX7_carryOut_66 (by decide) (by first | omega | exact b2i_r) (fun h66 => ?_) (fun h66 => ?_)
            · first
              | (exfalso; omega)
              | exact hend hff n _ (by omega) he
              | (rw [show (n : Int) + 1 = ((n + 1 : Nat) : Int) by omega]
                 refine ih (n + 1) (doM (cR J o) o) ⟨by rw [e3 _ (by omega) (by omega) (by omega) (by omega), d1, c1], ?_, ?_, e1, ?_⟩ ?_ (by omega) he
                 · have f1 := d4
                   rw [e3 _ (by omega) (by omega) (by omega) (by omega), d1]
                   exact ⟨by rw [e2 6 (by omega) (by omega)]; exact f1.1, f1.2.1, by rw [e2 6 (by omega) (by omega), e2 11 (by omega) (by omega)]; exact f1.2.2⟩
                 · intro j j1 j2
                   rw [e2 j (by omega) (by omega)]
                   exact d5 j j1 j2
                 · rw [e2 6 (by omega) (by omega), e2 11 (by omega) (by omega), e3 _ (by omega) (by omega) (by omega) (by omega), d1, d3]
                   rcases d7 with h | ⟨q2, h⟩
                   · exact Or.inl h
                   · exact Or.inr ⟨q2, (Sm.e_ffL q2 _ _ ⟨e2 6 (by omega) (by omega), e2 11 (by omega) (by omega)⟩).trans h⟩
                 · rw [e2 6 (by omega) (by omega), e2 11 (by omega) (by omega), d3]; omega)
            · have h56b : wnM (cR J o) o = 0 := by first | exact h56 | (exfalso; omega)
              have hO9 : Ok (cR J o (o + 1)) := by rw [d2]; exact c4
              obtain ⟨e1, e2, e3⟩ := doM_keep hO9 h56b d8
              refine z_aload_n C dX7_carryOut_69 rfl ?_
              refine z_callVd C (ci := 7) rfl (by decide) (by first | assumption | (exact hM.1)) (mX7_does l G hM hO9 d5 h56b d8) (cwV 0 C.2.2.2.2.1 gv7_211 rfl rfl rfl hd_X7_does ⟨Nat.le_of_ble_eq_true rfl, Nat.le_of_ble_eq_true rfl⟩) rfl rfl (Nat.le_of_ble_eq_true rfl) dX7_carryOut_70 ⟨Nat.zero_le _, Nat.zero_le _⟩ ?_
              refine z_iinc C dX7_carryOut_73 rfl (by decide) rfl ?_
              refine z_goto C (tgt := 25) dX7_carryOut_76 (by decide) ?_
              first
              | (exfalso; omega)
              | exact hend hff n _ (by omega) he
              | (rw [show (n : Int) + 1 = ((n + 1 : Nat) : Int) by omega]
                 refine ih (n + 1) (doM (cR J o) o) ⟨by rw [e3 _ (by omega) (by omega) (by omega) (by omega), d1, c1], ?_, ?_, e1, ?_⟩ ?_ (by omega) he
                 · have f1 := d4
                   rw [e3 _ (by omega) (by omega) (by omega) (by omega), d1]
                   exact ⟨by rw [e2 6 (by omega) (by omega)]; exact f1.1, f1.2.1, by rw [e2 6 (by omega) (by omega), e2 11 (by omega) (by omega)]; exact f1.2.2⟩
                 · intro j j1 j2
                   rw [e2 j (by omega) (by omega)]
                   exact d5 j j1 j2
                 · rw [e2 6 (by omega) (by omega), e2 11 (by omega) (by omega), e3 _ (by omega) (by omega) (by omega) (by omega), d1, d3]
                   rcases d7 with h | ⟨q2, h⟩
                   · exact Or.inl h
                   · exact Or.inr ⟨q2, (Sm.e_ffL q2 _ _ ⟨e2 6 (by omega) (by omega), e2 11 (by omega) (by omega)⟩).trans h⟩
                 · rw [e2 6 (by omega) (by omega), e2 11 (by omega) (by omega), d3]; omega)
  refine z_aload_n C dX7_carryOut_0 rfl ?_
  refine z_mem (va_upS I o).symm rfl ?_
  refine z_callVd C (ci := 7) rfl (by decide) (by first | assumption | (exact hM.1)) (nX7_findFault l G (I := I) hM hT) (cwV 0 C.2.2.2.2.1 gv7_205 rfl rfl rfl hd_X7_findFault ⟨Nat.le_of_ble_eq_true rfl, Nat.le_of_ble_eq_true rfl⟩) rfl rfl (Nat.le_of_ble_eq_true rfl) dX7_carryOut_1 ⟨Nat.zero_le _, Nat.zero_le _⟩ ?_
  refine z_bipush C dX7_carryOut_4 (by decide) ?_
  refine z_icmp_eq C (tgt := 12) dX7_carryOut_6 (by decide) (by first | omega | exact b2i_r) (by first | omega | exact b2i_r) (fun h6 => ?_) (fun h6 => ?_)
  · refine z_aload_n C dX7_carryOut_12 rfl ?_
    refine z_callVd C (ci := 7) rfl (by decide) (by first | assumption | (exact hM.1)) (mX7_record l G hM (by rw [va_up_s, a3 2 (by omega)]; exact hR)) (cwV 0 C.2.2.2.2.1 gv7_107 rfl rfl rfl hd_X7_record ⟨Nat.le_of_ble_eq_true rfl, Nat.le_of_ble_eq_true rfl⟩) rfl rfl (Nat.le_of_ble_eq_true rfl) dX7_carryOut_13 ⟨Nat.zero_le _, Nat.zero_le _⟩ ?_
    refine z_iconst C dX7_carryOut_16 ?_
    refine z_istore_n C dX7_carryOut_17 (by decide) rfl ?_
    refine z_aload_n C dX7_carryOut_18 rfl ?_
    refine z_iconst C dX7_carryOut_19 ?_
    refine z_pI C (ci := 7) (k := 11) rfl (by decide) rfl (by decide) tyX7_ok nmX7 wl_7 wq_28_17 rfl (Or.inl rfl) dX7_carryOut_20 (by assumption) ?_
    refine z_iconst C dX7_carryOut_23 ?_
    refine z_istore_n C dX7_carryOut_24 (by decide) rfl ?_
    obtain ⟨⟨b1, b2⟩, b3, b4, b5, b6, b7⟩ := coJ_ok2 hO hT hF h6
    exact hloop h6 81 0 (coJ I o) ⟨b3, b4, b5, b6, b7⟩ (by rw [b1, b2]; have := hT.1; omega) (by omega) rfl
  · refine z_bipush C dX7_carryOut_9 (by decide) ?_
    exact z_iret2 C hQ rfl dX7_carryOut_11 ⟨zr (if_neg h6).symm, rfl, rfl, rfl, (if_neg h6).symm, rfl⟩
