theorem md_c (g : Nat → Int) (v : Int) : md (st1 g 4 v) = st1 (md g) 11 v := by
  funext j
  unfold md st1
  by_cases h6 : j = 6
  · subst h6; rfl
  · rw [if_neg h6]
    by_cases h11 : j = 11
    · rw [if_pos h11, if_pos h11, if_pos rfl]
    · rw [if_neg h11, if_neg h11]
      show (0 : Int) = if j = 6 then g 2 else if j = 11 then g 4 else 0
      rw [if_neg h6, if_neg h11]
theorem md_td {P g : Nat → Int} (h : isDg P (md g)) : tdF P (md g) = md (st1 g 4 (g 4 + 1)) := by
  unfold tdF
  rw [if_pos h, md_c]
  rfl
set_option maxHeartbeats 4000000 in
set_option maxRecDepth 100000 in
theorem mX3_readNumber (l : Launch) (G : GG) {z : Nat} {K N : Nat → Nat} {I : MI} {R : MR} {b : Nat} (hM : ShP G z K N R b) {nu g : Nat → Int} (hT : TOk (I (b + 2)) (md g)) {k9 : Nat} (hk : k9 < 3) : Cod l G yX3_readNumber (Cond.code yX3_readNumber cX3_readNumber 4 (some .boolean) :: wsL_law) ⟨1, 0, 0, 21⟩ [.ref b, .int (zI (k9 : Int))] z K N (PM I b nu g) R (some (.int (zI (b2i (isDg (I (b + 2)) (md g)))))) (PM I b (if isDg (I (b + 2)) (md g) then st1 nu k9 (tnV (I (b + 2)) (md g)) else nu) (if isDg (I (b + 2)) (md g) then st1 g 4 (tnF (I (b + 2)) (md g) 11) else g)) R := by
  refine Con.of (own := RX3) (cc := cX3_readNumber) (maxL := 4) (ret := (some .boolean)) (by decide +kernel) rfl rfl (Nat.le_of_ble_eq_true rfl) (by decide) rfl ?_
  intro p e9 s mt args below meth c Q hin hQ C
  obtain ⟨ho, ⟨r0, r3⟩, ⟨k1, k2⟩, n1, n2⟩ := id hM
  have hT9 := id hT
  obtain ⟨t6, tP, t11⟩ := hT9
  rw [md_6] at t6 t11
  rw [md_11] at t11
  have hsr := sgV_rng hT (g 4)
  have hsd := sgV_dg (P := (I (b + 2))) (g := g) t11.1
  have hloop : isDg (I (b + 2)) (md g) → ∀ (q : Nat) (d : Nat) (v : Int) (w : Nat → Int), d ≤ 4 → 4 - d < q → w = st1 g 4 (w 4) → TOk (I (b + 2)) (md w) → 0 ≤ v ∧ (d = 1 → v ≤ 9) ∧ (d = 2 → v ≤ 99) ∧ (d = 3 → v ≤ 999) ∧ v ≤ 9999 → ((d = 0 ∧ v = 0 ∧ w = g) ∨ (1 ≤ d ∧ tnL (I (b + 2)) (4 - d) v (md w) = tnL (I (b + 2)) 3 (tdV (I (b + 2)) (md g)) (tdF (I (b + 2)) (md g)))) → Zq p l e9 ⟨1, 0, 0, 21⟩ s mt args below meth c G 4 Q 0 0 z K N (PM I b nu w) R 20 [(0, .ref b), (1, .int (zI (k9 : Int))), (2, .int (zI v)), (3, .int (zI (d : Int)))] [] := by
    intro hdg q
    induction q with
    | zero => intro d v w h1 h2; exact absurd h2 (by omega)
    | succ q ih =>
      intro d v w h1 h2 hw hTw hv hinv
      have w6 := hTw.1
      have w11 := hTw.2.2
      rw [md_6] at w6 w11
      rw [md_11] at w11
      have hsr := sgV_rng hTw (w 4)
      have hsd := sgV_dg (P := (I (b + 2))) (g := w) w11.1
      refine z_iload_n C dX3_readNumber_20 rfl ?_
      refine z_iconst C dX3_readNumber_21 ?_
      refine z_icmp_ge C (tgt := 80) dX3_readNumber_22 (by decide) (by first | omega | exact b2i_r) (by first | omega | exact b2i_r) (fun h22 => ?_) (fun h22 => ?_)
      · have hfin : (v, md w) = tnL (I (b + 2)) 3 (tdV (I (b + 2)) (md g)) (tdF (I (b + 2)) (md g)) := by
          rcases hinv with ⟨i1, i2, i3⟩ | ⟨i1, i2⟩
          · exfalso
            subst i3
            first | omega | exact b2i_0.mp h36 (hsd.mpr hdg)
          · rw [← i2]
            first
            | (rw [show 4 - d = 0 by omega]; rfl)
            | (refine (tnL_0 _ ?_).symm
               rintro ⟨z1, z2⟩
               first | omega | exact b2i_0.mp h36 (hsd.mpr z2))
        refine z_aload_n C dX3_readNumber_80 rfl ?_
        refine z_gR C (ci := 3) (k := 0) rfl (by decide) rfl (by decide) wl_3 wq_3_20 (by decide) dX3_readNumber_81 (by assumption) (by assumption) ?_
        refine z_iload_n C dX3_readNumber_84 rfl ?_
        refine z_iload_n C dX3_readNumber_85 rfl ?_
        refine z_iastk C (k9) dX3_readNumber_86 (by assumption) (by first | rfl | omega) (by omega) (by omega) ?_
        rw [PM_u]
        refine z_iconst C dX3_readNumber_87 ?_
        exact z_zret2 C hQ rfl (by first | exact Or.inl rfl | exact Or.inr rfl | exact b2i_c | omega) dX3_readNumber_88 ⟨zr (b2i_t hdg).symm, rfl, rfl, rfl, by rw [if_pos hdg, if_pos hdg, show tnV (I (b + 2)) (md g) = v from (congrArg Prod.fst hfin).symm, show tnF (I (b + 2)) (md g) = md w from (congrArg Prod.snd hfin).symm, md_11, ← hw], rfl⟩
      · refine z_aload_n C dX3_readNumber_25 rfl ?_
        refine z_aload_n C dX3_readNumber_26 rfl ?_
        refine z_gI C (ci := 3) (k := 4) rfl (by decide) rfl (by decide) wl_3 wq_27_0 rfl dX3_readNumber_27 (by assumption) ?_
        rw [PM_b]
        refine z_callVd C (ci := 3) rfl (by decide) (by first | assumption | exact hM.1) (mX3_signAt l G hM hTw (by omega)) (cwV 1 C.2.2.2.2.1 gv3_47 rfl rfl rfl hd_X3_signAt ⟨Nat.le_of_ble_eq_true rfl, Nat.le_of_ble_eq_true rfl⟩) rfl rfl (Nat.le_of_ble_eq_true rfl) dX3_readNumber_30 ⟨Nat.zero_le _, Nat.zero_le _⟩ ?_
        refine z_callSd C (mX3_isDigit l G (by omega)) (va_cwS 1 C.2.2.2.2.1 gv3_63 rfl rfl rfl hs_X3_isDigit ⟨Nat.le_of_ble_eq_true rfl, Nat.le_of_ble_eq_true rfl⟩) rfl rfl (Nat.le_of_ble_eq_true rfl) dX3_readNumber_33 ⟨Nat.zero_le _, Nat.zero_le _⟩ ?_
        refine z_if_eq C (tgt := 80) dX3_readNumber_36 (by decide) (by first | omega | exact b2i_r) (fun h36 => ?_) (fun h36 => ?_)
        · have hfin : (v, md w) = tnL (I (b + 2)) 3 (tdV (I (b + 2)) (md g)) (tdF (I (b + 2)) (md g)) := by
            rcases hinv with ⟨i1, i2, i3⟩ | ⟨i1, i2⟩
            · exfalso
              subst i3
              first | omega | exact b2i_0.mp h36 (hsd.mpr hdg)
            · rw [← i2]
              first
              | (rw [show 4 - d = 0 by omega]; rfl)
              | (refine (tnL_0 _ ?_).symm
                 rintro ⟨z1, z2⟩
                 first | omega | exact b2i_0.mp h36 (hsd.mpr z2))
          refine z_aload_n C dX3_readNumber_80 rfl ?_
          refine z_gR C (ci := 3) (k := 0) rfl (by decide) rfl (by decide) wl_3 wq_3_20 (by decide) dX3_readNumber_81 (by assumption) (by assumption) ?_
          refine z_iload_n C dX3_readNumber_84 rfl ?_
          refine z_iload_n C dX3_readNumber_85 rfl ?_
          refine z_iastk C (k9) dX3_readNumber_86 (by assumption) (by first | rfl | omega) (by omega) (by omega) ?_
          rw [PM_u]
          refine z_iconst C dX3_readNumber_87 ?_
          exact z_zret2 C hQ rfl (by first | exact Or.inl rfl | exact Or.inr rfl | exact b2i_c | omega) dX3_readNumber_88 ⟨zr (b2i_t hdg).symm, rfl, rfl, rfl, by rw [if_pos hdg, if_pos hdg, show tnV (I (b + 2)) (md g) = v from (congrArg Prod.fst hfin).symm, show tnF (I (b + 2)) (md g) = md w from (congrArg Prod.snd hfin).symm, md_11, ← hw], rfl⟩
        · refine z_iload_n C dX3_readNumber_39 rfl ?_
          refine z_if_eq C (tgt := 47) dX3_readNumber_40 (by decide) (by first | omega | exact b2i_r) (fun h40 => ?_) (fun h40 => ?_)
          · have hdw : isDg (I (b + 2)) (md w) := hsd.mp (b2i_1.mp h36)
            have hse := sgV_e w11.1 hdw
            have htd : tdV (I (b + 2)) (md w) = sgV (I (b + 2)) w (w 4) - 48 := by unfold tdV; rw [if_pos hdw, hse]
            have hsv := b2i_1.mp h36
            refine z_iload_n C dX3_readNumber_47 rfl ?_
            refine z_bipush C dX3_readNumber_48 (by decide) ?_
            refine z_imul C dX3_readNumber_50 ?_
            refine z_aload_n C dX3_readNumber_51 rfl ?_
            refine z_aload_n C dX3_readNumber_52 rfl ?_
            refine z_gI C (ci := 3) (k := 4) rfl (by decide) rfl (by decide) wl_3 wq_27_0 rfl dX3_readNumber_53 (by assumption) ?_
            rw [PM_b]
            refine z_callVd C (ci := 3) rfl (by decide) (by first | assumption | exact hM.1) (mX3_signAt l G hM hTw (by omega)) (cwV 1 C.2.2.2.2.1 gv3_47 rfl rfl rfl hd_X3_signAt ⟨Nat.le_of_ble_eq_true rfl, Nat.le_of_ble_eq_true rfl⟩) rfl rfl (Nat.le_of_ble_eq_true rfl) dX3_readNumber_56 ⟨Nat.zero_le _, Nat.zero_le _⟩ ?_
            refine z_iadd C dX3_readNumber_59 ?_
            refine z_bipush C dX3_readNumber_60 (by decide) ?_
            refine z_isub C dX3_readNumber_62 ?_
            refine z_istore_n C dX3_readNumber_63 (by decide) rfl ?_
            refine z_aload_n C dX3_readNumber_64 rfl ?_
            refine z_dup C dX3_readNumber_65 rfl ?_
            refine z_gI C (ci := 3) (k := 4) rfl (by decide) rfl (by decide) wl_3 wq_27_0 rfl dX3_readNumber_66 (by assumption) ?_
            rw [PM_b]
            refine z_iconst C dX3_readNumber_69 ?_
            refine z_iadd C dX3_readNumber_70 ?_
            refine z_pI C (ci := 3) (k := 4) rfl (by decide) rfl (by decide) tyX3_ok nmX3 wl_3 wq_27_0 rfl (Or.inl rfl) dX3_readNumber_71 (by assumption) ?_
            rw [PM_g]
            refine z_iinc C dX3_readNumber_74 rfl (by decide) rfl ?_
            refine z_goto C (tgt := 20) dX3_readNumber_77 (by decide) ?_
            rw [show (d : Int) + 1 = ((d + 1 : Nat) : Int) by omega]
            have hw2 : st1 w 4 (w 4 + 1) = st1 g 4 (w 4 + 1) := (congrArg (fun y => st1 y 4 (w 4 + 1)) hw).trans (st1_2 _ _ _ _)
            have hw4 : st1 w 4 (w 4 + 1) 4 = w 4 + 1 := st1_s _ _ _
            refine ih (d + 1) _ (st1 w 4 (w 4 + 1)) (by omega) (by omega) (by rw [hw4]; exact hw2) (by rw [← md_td hdw]; exact hTw.td) (by omega) (Or.inr ⟨by omega, ?_⟩)
            rcases hinv with ⟨i1, i2, i3⟩ | ⟨i1, i2⟩
            · subst i1
              subst i3
              rw [md_td hdg, htd]
              congr 1
              omega
            · rw [← i2, show 4 - d = (4 - (d + 1)) + 1 by omega, tnL_s, if_pos ⟨by omega, hdw⟩, md_td hdw, htd]
              congr 1
              omega
          · refine z_iload_n C dX3_readNumber_43 rfl ?_
            refine z_if_le C (tgt := 80) dX3_readNumber_44 (by decide) (by first | omega | exact b2i_r) (fun h44 => ?_) (fun h44 => ?_)
            · have hfin : (v, md w) = tnL (I (b + 2)) 3 (tdV (I (b + 2)) (md g)) (tdF (I (b + 2)) (md g)) := by
                rcases hinv with ⟨i1, i2, i3⟩ | ⟨i1, i2⟩
                · exfalso
                  subst i3
                  first | omega | exact b2i_0.mp h36 (hsd.mpr hdg)
                · rw [← i2]
                  first
                  | (rw [show 4 - d = 0 by omega]; rfl)
                  | (refine (tnL_0 _ ?_).symm
                     rintro ⟨z1, z2⟩
                     first | omega | exact b2i_0.mp h36 (hsd.mpr z2))
              refine z_aload_n C dX3_readNumber_80 rfl ?_
              refine z_gR C (ci := 3) (k := 0) rfl (by decide) rfl (by decide) wl_3 wq_3_20 (by decide) dX3_readNumber_81 (by assumption) (by assumption) ?_
              refine z_iload_n C dX3_readNumber_84 rfl ?_
              refine z_iload_n C dX3_readNumber_85 rfl ?_
              refine z_iastk C (k9) dX3_readNumber_86 (by assumption) (by first | rfl | omega) (by omega) (by omega) ?_
              rw [PM_u]
              refine z_iconst C dX3_readNumber_87 ?_
              exact z_zret2 C hQ rfl (by first | exact Or.inl rfl | exact Or.inr rfl | exact b2i_c | omega) dX3_readNumber_88 ⟨zr (b2i_t hdg).symm, rfl, rfl, rfl, by rw [if_pos hdg, if_pos hdg, show tnV (I (b + 2)) (md g) = v from (congrArg Prod.fst hfin).symm, show tnF (I (b + 2)) (md g) = md w from (congrArg Prod.snd hfin).symm, md_11, ← hw], rfl⟩
            · have hdw : isDg (I (b + 2)) (md w) := hsd.mp (b2i_1.mp h36)
              have hse := sgV_e w11.1 hdw
              have htd : tdV (I (b + 2)) (md w) = sgV (I (b + 2)) w (w 4) - 48 := by unfold tdV; rw [if_pos hdw, hse]
              have hsv := b2i_1.mp h36
              refine z_iload_n C dX3_readNumber_47 rfl ?_
              refine z_bipush C dX3_readNumber_48 (by decide) ?_
              refine z_imul C dX3_readNumber_50 ?_
              refine z_aload_n C dX3_readNumber_51 rfl ?_
              refine z_aload_n C dX3_readNumber_52 rfl ?_
              refine z_gI C (ci := 3) (k := 4) rfl (by decide) rfl (by decide) wl_3 wq_27_0 rfl dX3_readNumber_53 (by assumption) ?_
              rw [PM_b]
              refine z_callVd C (ci := 3) rfl (by decide) (by first | assumption | exact hM.1) (mX3_signAt l G hM hTw (by omega)) (cwV 1 C.2.2.2.2.1 gv3_47 rfl rfl rfl hd_X3_signAt ⟨Nat.le_of_ble_eq_true rfl, Nat.le_of_ble_eq_true rfl⟩) rfl rfl (Nat.le_of_ble_eq_true rfl) dX3_readNumber_56 ⟨Nat.zero_le _, Nat.zero_le _⟩ ?_
              refine z_iadd C dX3_readNumber_59 ?_
              refine z_bipush C dX3_readNumber_60 (by decide) ?_
              refine z_isub C dX3_readNumber_62 ?_
              refine z_istore_n C dX3_readNumber_63 (by decide) rfl ?_
              refine z_aload_n C dX3_readNumber_64 rfl ?_
              refine z_dup C dX3_readNumber_65 rfl ?_
              refine z_gI C (ci := 3) (k := 4) rfl (by decide) rfl (by decide) wl_3 wq_27_0 rfl dX3_readNumber_66 (by assumption) ?_
              rw [PM_b]
              refine z_iconst C dX3_readNumber_69 ?_
              refine z_iadd C dX3_readNumber_70 ?_
              refine z_pI C (ci := 3) (k := 4) rfl (by decide) rfl (by decide) tyX3_ok nmX3 wl_3 wq_27_0 rfl (Or.inl rfl) dX3_readNumber_71 (by assumption) ?_
              rw [PM_g]
              refine z_iinc C dX3_readNumber_74 rfl (by decide) rfl ?_
              refine z_goto C (tgt := 20) dX3_readNumber_77 (by decide) ?_
              rw [show (d : Int) + 1 = ((d + 1 : Nat) : Int) by omega]
              have hw2 : st1 w 4 (w 4 + 1) = st1 g 4 (w 4 + 1) := (congrArg (fun y => st1 y 4 (w 4 + 1)) hw).trans (st1_2 _ _ _ _)
              have hw4 : st1 w 4 (w 4 + 1) 4 = w 4 + 1 := st1_s _ _ _
              refine ih (d + 1) _ (st1 w 4 (w 4 + 1)) (by omega) (by omega) (by rw [hw4]; exact hw2) (by rw [← md_td hdw]; exact hTw.td) (by omega) (Or.inr ⟨by omega, ?_⟩)
              rcases hinv with ⟨i1, i2, i3⟩ | ⟨i1, i2⟩
              · subst i1
                subst i3
                rw [md_td hdg, htd]
                congr 1
                omega
              · rw [← i2, show 4 - d = (4 - (d + 1)) + 1 by omega, tnL_s, if_pos ⟨by omega, hdw⟩, md_td hdw, htd]
                congr 1
                omega
  refine z_aload_n C dX3_readNumber_0 rfl ?_
  refine z_aload_n C dX3_readNumber_1 rfl ?_
  refine z_gI C (ci := 3) (k := 4) rfl (by decide) rfl (by decide) wl_3 wq_27_0 rfl dX3_readNumber_2 (by assumption) ?_
  rw [PM_b]
  refine z_callVd C (ci := 3) rfl (by decide) (by first | assumption | exact hM.1) (mX3_signAt l G hM hT (by omega)) (cwV 1 C.2.2.2.2.1 gv3_47 rfl rfl rfl hd_X3_signAt ⟨Nat.le_of_ble_eq_true rfl, Nat.le_of_ble_eq_true rfl⟩) rfl rfl (Nat.le_of_ble_eq_true rfl) dX3_readNumber_5 ⟨Nat.zero_le _, Nat.zero_le _⟩ ?_
  refine z_callSd C (mX3_isDigit l G (by omega)) (va_cwS 1 C.2.2.2.2.1 gv3_63 rfl rfl rfl hs_X3_isDigit ⟨Nat.le_of_ble_eq_true rfl, Nat.le_of_ble_eq_true rfl⟩) rfl rfl (Nat.le_of_ble_eq_true rfl) dX3_readNumber_8 ⟨Nat.zero_le _, Nat.zero_le _⟩ ?_
  refine z_if_ne C (tgt := 16) dX3_readNumber_11 (by decide) (by first | omega | exact b2i_r) (fun h11 => ?_) (fun h11 => ?_)
  · have hd9 : isDg (I (b + 2)) (md g) := hsd.mp (b2i_1.mp h11)
    refine z_iconst C dX3_readNumber_16 ?_
    refine z_istore_n C dX3_readNumber_17 (by decide) rfl ?_
    refine z_iconst C dX3_readNumber_18 ?_
    refine z_istore_n C dX3_readNumber_19 (by decide) rfl ?_
    exact hloop hd9 5 0 0 g (by omega) (by omega) (funext fun j => by unfold st1; split <;> first | rfl | (subst_vars; rfl)) hT (by omega) (Or.inl ⟨rfl, rfl, rfl⟩)
  · have hd9 : ¬ isDg (I (b + 2)) (md g) := fun z => b2i_0.mp h11 (hsd.mpr z)
    refine z_iconst C dX3_readNumber_14 ?_
    exact z_zret2 C hQ rfl (by first | exact Or.inl rfl | exact Or.inr rfl | exact b2i_c | omega) dX3_readNumber_15 ⟨zr (b2i_f hd9).symm, rfl, rfl, rfl, by rw [if_neg hd9, if_neg hd9], rfl⟩

