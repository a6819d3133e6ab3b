theorem TOk.e_rvG {P g : Nat → Int} (h : TOk P (md g)) : TOk P (md (rvG P g)) := h.e_rvg.e_rnG
theorem TOk.e_gaG {P g : Nat → Int} (h : TOk P (md g)) : TOk P (md (gaG P g)) := by
  unfold gaG
  split
  · split
    · exact h.e_rvG.e_cmg
    · split
      · split
        · exact h.e_rvG.e_cmg.e_rnG.e_cmg
        · exact h.e_rvG.e_cmg.e_rnG.e_cmg.e_rnG
      · exact h.e_rvG.e_cmg.e_rnG
  · exact h.e_rvG
theorem TOk.e_g3 {P g : Nat → Int} (h : TOk P (md g)) (hc : ¬ sgV P g (g 4) = 0) : TOk P (md (g3F P g)) := by
  have h6 := h.1
  have h11 := h.2.2
  rw [md_6] at h6 h11
  rw [md_11] at h11
  have hlt : g 4 < g 2 := by
    unfold sgV at hc
    by_cases z : 0 ≤ g 4 ∧ g 4 < g 2
    · exact z.2
    · rw [if_neg z] at hc; exact absurd rfl hc
  unfold g3F
  rw [md_c, md_k]
  refine ⟨?_, h.2.1, ?_⟩
  · rw [st1_n (by omega)]; exact h.1
  · rw [st1_s, st1_n (by omega), md_6]; omega
theorem TOk.e_orG {P g : Nat → Int} (h : TOk P (md g)) : TOk P (md (orG P g)) := by
  unfold orG
  split
  · exact (h.e_g3 (by omega)).e_rnG
  · split
    · have h3 := h.e_g3 (by omega)
      split
      · rename_i hd
        rw [← md_td hd]; exact h3.td
      · exact h3
    · split
      · exact (h.e_g3 (by omega)).e_gaG
      · rw [md_k]; exact h
theorem TOk.e_noG {P g : Nat → Int} (h : TOk P (md g)) : TOk P (md (noG P g)) := by
  unfold noG
  split
  · exact h.e_seG
  · exact h.e_seG.e_orG
/-- findFault's turns: whether the last order was whole, numbers, fields -/
def fcL (P : Nat → Int) : Nat → Int × (Nat → Int) × (Nat → Int) → Int × (Nat → Int) × (Nat → Int)
  | 0, x => x
  | q + 1, x => if ¬ x.1 = 0 ∧ x.2.2 4 < x.2.2 2 then fcL P q (noB P x.2.2, noN P x.2.1 x.2.2, noG P x.2.2) else x
theorem fcL_s (P : Nat → Int) (q : Nat) (x : Int × (Nat → Int) × (Nat → Int)) : fcL P (q + 1) x = if ¬ x.1 = 0 ∧ x.2.2 4 < x.2.2 2 then fcL P q (noB P x.2.2, noN P x.2.1 x.2.2, noG P x.2.2) else x := rfl
theorem fcL_0 (P : Nat → Int) (q : Nat) (x : Int × (Nat → Int) × (Nat → Int)) (h : ¬ (¬ x.1 = 0 ∧ x.2.2 4 < x.2.2 2)) : fcL P q x = x := by
  cases q with
  | zero => rfl
  | succ q => rw [fcL_s, if_neg h]
def fcE (P nu g : Nat → Int) : Int × (Nat → Int) × (Nat → Int) := fcL P 79 (noB P (st1 g 4 0), noN P nu (st1 g 4 0), noG P (st1 g 4 0))
theorem noB_01 (P g : Nat → Int) : 0 ≤ noB P g ∧ noB P g ≤ 1 := by
  have hb : ∀ (p : Prop) [Decidable p], 0 ≤ b2i p ∧ b2i p ≤ 1 := fun p _ => b2i_01
  unfold noB orB gaB
  (repeat' split) <;> first | exact hb _ | omega
theorem TOk.e_z {P g : Nat → Int} (h : TOk P (md g)) : TOk P (md (st1 g 4 0)) := by
  have h6 := h.1
  rw [md_c]
  exact ⟨by rw [st1_n (by omega)]; exact h.1, h.2.1, by rw [st1_s, st1_n (by omega)]; omega⟩
set_option maxHeartbeats 4000000 in
set_option maxRecDepth 100000 in
theorem mX3_findFault (l : Launch) (G : GG) {z : Nat} {K N : Nat → Nat} {I : MI} {R : MR} {b : Nat} (hM : ShP G z K N R b) {nu g : Nat → Int} (hT : TOk (I (b + 2)) (md g))  : Cod l G yX3_findFault (Cond.code yX3_findFault cX3_findFault 3 (some .int) :: wsL_law) ⟨4, 0, 0, 85⟩ [.ref b] z K N (PM I b nu g) R (some (.int (zI (if ¬ (fcE (I (b + 2)) nu g).1 = 0 ∧ (fcE (I (b + 2)) nu g).2.2 4 = (fcE (I (b + 2)) nu g).2.2 2 then -6 else (fcE (I (b + 2)) nu g).2.2 4)))) (PM I b (fcE (I (b + 2)) nu g).2.1 (fcE (I (b + 2)) nu g).2.2) R := by
  refine Con.of (own := RX3) (cc := cX3_findFault) (maxL := 3) (ret := (some .int)) (by decide +kernel) rfl rfl (Nat.le_of_ble_eq_true rfl) (by decide) rfl ?_
  intro p e9 s mt args below meth c Q hin hQ C
  obtain ⟨ho, ⟨r0, r3⟩, ⟨k1, k2⟩, n1, n2⟩ := id hM
  have hT9 := id hT
  obtain ⟨t6, tP, t11⟩ := hT9
  rw [md_6] at t6 t11
  rw [md_11] at t11
  have hloop : ∀ (q : Nat) (i : Nat) (B9 : Int) (n2 w : Nat → Int), i ≤ 80 → 80 - i < q → TOk (I (b + 2)) (md w) → 0 ≤ B9 ∧ B9 ≤ 1 → fcL (I (b + 2)) (80 - i) (B9, n2, w) = (fcE (I (b + 2)) nu g) → Zq p l e9 ⟨4, 0, 0, 85⟩ s mt args below meth c G 3 Q 0 0 z K N (PM I b n2 w) R 11 [(0, .ref b), (1, .int (zI B9)), (2, .int (zI (i : Int)))] [] := by
    intro q
    induction q with
    | zero => intro i B9 n2 w h1 h2; exact absurd h2 (by omega)
    | succ q ih =>
      intro i B9 n2 w h1 h2 hTw hB9 he
      have w6 := hTw.1
      have w11 := hTw.2.2
      rw [md_6] at w6 w11
      rw [md_11] at w11
      have hnb := noB_01 (I (b + 2)) w
      refine z_iload_n C dX3_findFault_11 rfl ?_
      refine z_bipush C dX3_findFault_12 (by decide) ?_
      refine z_icmp_ge C (tgt := 43) dX3_findFault_14 (by decide) (by first | omega | exact b2i_r) (by first | omega | exact b2i_r) (fun h14 => ?_) (fun h14 => ?_)
      · have hst : (B9, n2, w) = (fcE (I (b + 2)) nu g) := by
          rw [← he]
          first
          | (rw [show 80 - i = 0 by omega]; rfl)
          | exact (fcL_0 _ _ _ (fun z => by have z1 : ¬ B9 = 0 := z.1; have z2 : w 4 < w 2 := z.2; omega)).symm
        have ha1 : B9 = (fcE (I (b + 2)) nu g).1 := congrArg (fun x => x.1) hst
        have ha2 : n2 = (fcE (I (b + 2)) nu g).2.1 := congrArg (fun x => x.2.1) hst
        have ha3 : w = (fcE (I (b + 2)) nu g).2.2 := congrArg (fun x => x.2.2) hst
        refine z_iload_n C dX3_findFault_43 rfl ?_
        refine z_if_eq C (tgt := 63) dX3_findFault_44 (by decide) (by first | omega | exact b2i_r) (fun h44 => ?_) (fun h44 => ?_)
        · refine z_aload_n C dX3_findFault_63 rfl ?_
          refine z_gI C (ci := 3) (k := 4) rfl (by decide) rfl (by decide) wl_3 wq_27_0 rfl dX3_findFault_64 (by assumption) ?_
          try rw [PM_b]
          exact z_iret2 C hQ rfl dX3_findFault_67 ⟨zr (by rw [← ha1, ← ha3]; first | (rw [if_pos (by omega)]; done) | rw [if_neg (by omega)]), rfl, rfl, rfl, by rw [← ha2, ← ha3], rfl⟩
        · refine z_aload_n C dX3_findFault_47 rfl ?_
          refine z_gI C (ci := 3) (k := 4) rfl (by decide) rfl (by decide) wl_3 wq_27_0 rfl dX3_findFault_48 (by assumption) ?_
          rw [PM_b]
          refine z_aload_n C dX3_findFault_51 rfl ?_
          refine z_gI C (ci := 3) (k := 2) rfl (by decide) rfl (by decide) wl_3 wq_25_16 rfl dX3_findFault_52 (by assumption) ?_
          rw [PM_b]
          refine z_icmp_ne C (tgt := 63) dX3_findFault_55 (by decide) (by first | omega | exact b2i_r) (by first | omega | exact b2i_r) (fun h55 => ?_) (fun h55 => ?_)
          · refine z_aload_n C dX3_findFault_63 rfl ?_
            refine z_gI C (ci := 3) (k := 4) rfl (by decide) rfl (by decide) wl_3 wq_27_0 rfl dX3_findFault_64 (by assumption) ?_
            try rw [PM_b]
            exact z_iret2 C hQ rfl dX3_findFault_67 ⟨zr (by rw [← ha1, ← ha3]; first | (rw [if_pos (by omega)]; done) | rw [if_neg (by omega)]), rfl, rfl, rfl, by rw [← ha2, ← ha3], rfl⟩
          · refine z_bipush C dX3_findFault_58 (by decide) ?_
            refine z_goto C (tgt := 67) dX3_findFault_60 (by decide) ?_
            try rw [PM_b]
            exact z_iret2 C hQ rfl dX3_findFault_67 ⟨zr (by rw [← ha1, ← ha3]; first | (rw [if_pos (by omega)]; done) | rw [if_neg (by omega)]), rfl, rfl, rfl, by rw [← ha2, ← ha3], rfl⟩
      · refine z_iload_n C dX3_findFault_17 rfl ?_
        refine z_if_eq C (tgt := 43) dX3_findFault_18 (by decide) (by first | omega | exact b2i_r) (fun h18 => ?_) (fun h18 => ?_)
        · have hst : (B9, n2, w) = (fcE (I (b + 2)) nu g) := by
            rw [← he]
            first
            | (rw [show 80 - i = 0 by omega]; rfl)
            | exact (fcL_0 _ _ _ (fun z => by have z1 : ¬ B9 = 0 := z.1; have z2 : w 4 < w 2 := z.2; omega)).symm
          have ha1 : B9 = (fcE (I (b + 2)) nu g).1 := congrArg (fun x => x.1) hst
          have ha2 : n2 = (fcE (I (b + 2)) nu g).2.1 := congrArg (fun x => x.2.1) hst
          have ha3 : w = (fcE (I (b + 2)) nu g).2.2 := congrArg (fun x => x.2.2) hst
          refine z_iload_n C dX3_findFault_43 rfl ?_
          refine z_if_eq C (tgt := 63) dX3_findFault_44 (by decide) (by first | omega | exact b2i_r) (fun h44 => ?_) (fun h44 => ?_)
          · refine z_aload_n C dX3_findFault_63 rfl ?_
            refine z_gI C (ci := 3) (k := 4) rfl (by decide) rfl (by decide) wl_3 wq_27_0 rfl dX3_findFault_64 (by assumption) ?_
            try rw [PM_b]
            exact z_iret2 C hQ rfl dX3_findFault_67 ⟨zr (by rw [← ha1, ← ha3]; first | (rw [if_pos (by omega)]; done) | rw [if_neg (by omega)]), rfl, rfl, rfl, by rw [← ha2, ← ha3], rfl⟩
          · refine z_aload_n C dX3_findFault_47 rfl ?_
            refine z_gI C (ci := 3) (k := 4) rfl (by decide) rfl (by decide) wl_3 wq_27_0 rfl dX3_findFault_48 (by assumption) ?_
            rw [PM_b]
            refine z_aload_n C dX3_findFault_51 rfl ?_
            refine z_gI C (ci := 3) (k := 2) rfl (by decide) rfl (by decide) wl_3 wq_25_16 rfl dX3_findFault_52 (by assumption) ?_
            rw [PM_b]
            refine z_icmp_ne C (tgt := 63) dX3_findFault_55 (by decide) (by first | omega | exact b2i_r) (by first | omega | exact b2i_r) (fun h55 => ?_) (fun h55 => ?_)
            · refine z_aload_n C dX3_findFault_63 rfl ?_
              refine z_gI C (ci := 3) (k := 4) rfl (by decide) rfl (by decide) wl_3 wq_27_0 rfl dX3_findFault_64 (by assumption) ?_
              try rw [PM_b]
              exact z_iret2 C hQ rfl dX3_findFault_67 ⟨zr (by rw [← ha1, ← ha3]; first | (rw [if_pos (by omega)]; done) | rw [if_neg (by omega)]), rfl, rfl, rfl, by rw [← ha2, ← ha3], rfl⟩
            · refine z_bipush C dX3_findFault_58 (by decide) ?_
              refine z_goto C (tgt := 67) dX3_findFault_60 (by decide) ?_
              try rw [PM_b]
              exact z_iret2 C hQ rfl dX3_findFault_67 ⟨zr (by rw [← ha1, ← ha3]; first | (rw [if_pos (by omega)]; done) | rw [if_neg (by omega)]), rfl, rfl, rfl, by rw [← ha2, ← ha3], rfl⟩
        · refine z_aload_n C dX3_findFault_21 rfl ?_
          refine z_gI C (ci := 3) (k := 4) rfl (by decide) rfl (by decide) wl_3 wq_27_0 rfl dX3_findFault_22 (by assumption) ?_
          rw [PM_b]
          refine z_aload_n C dX3_findFault_25 rfl ?_
          refine z_gI C (ci := 3) (k := 2) rfl (by decide) rfl (by decide) wl_3 wq_25_16 rfl dX3_findFault_26 (by assumption) ?_
          rw [PM_b]
          refine z_icmp_ge C (tgt := 43) dX3_findFault_29 (by decide) (by first | omega | exact b2i_r) (by first | omega | exact b2i_r) (fun h29 => ?_) (fun h29 => ?_)
          · have hst : (B9, n2, w) = (fcE (I (b + 2)) nu g) := by
              rw [← he]
              first
              | (rw [show 80 - i = 0 by omega]; rfl)
              | exact (fcL_0 _ _ _ (fun z => by have z1 : ¬ B9 = 0 := z.1; have z2 : w 4 < w 2 := z.2; omega)).symm
            have ha1 : B9 = (fcE (I (b + 2)) nu g).1 := congrArg (fun x => x.1) hst
            have ha2 : n2 = (fcE (I (b + 2)) nu g).2.1 := congrArg (fun x => x.2.1) hst
            have ha3 : w = (fcE (I (b + 2)) nu g).2.2 := congrArg (fun x => x.2.2) hst
            refine z_iload_n C dX3_findFault_43 rfl ?_
            refine z_if_eq C (tgt := 63) dX3_findFault_44 (by decide) (by first | omega | exact b2i_r) (fun h44 => ?_) (fun h44 => ?_)
            · refine z_aload_n C dX3_findFault_63 rfl ?_
              refine z_gI C (ci := 3) (k := 4) rfl (by decide) rfl (by decide) wl_3 wq_27_0 rfl dX3_findFault_64 (by assumption) ?_
              try rw [PM_b]
              exact z_iret2 C hQ rfl dX3_findFault_67 ⟨zr (by rw [← ha1, ← ha3]; first | (rw [if_pos (by omega)]; done) | rw [if_neg (by omega)]), rfl, rfl, rfl, by rw [← ha2, ← ha3], rfl⟩
            · refine z_aload_n C dX3_findFault_47 rfl ?_
              refine z_gI C (ci := 3) (k := 4) rfl (by decide) rfl (by decide) wl_3 wq_27_0 rfl dX3_findFault_48 (by assumption) ?_
              rw [PM_b]
              refine z_aload_n C dX3_findFault_51 rfl ?_
              refine z_gI C (ci := 3) (k := 2) rfl (by decide) rfl (by decide) wl_3 wq_25_16 rfl dX3_findFault_52 (by assumption) ?_
              rw [PM_b]
              refine z_icmp_ne C (tgt := 63) dX3_findFault_55 (by decide) (by first | omega | exact b2i_r) (by first | omega | exact b2i_r) (fun h55 => ?_) (fun h55 => ?_)
              · refine z_aload_n C dX3_findFault_63 rfl ?_
                refine z_gI C (ci := 3) (k := 4) rfl (by decide) rfl (by decide) wl_3 wq_27_0 rfl dX3_findFault_64 (by assumption) ?_
                try rw [PM_b]
                exact z_iret2 C hQ rfl dX3_findFault_67 ⟨zr (by rw [← ha1, ← ha3]; first | (rw [if_pos (by omega)]; done) | rw [if_neg (by omega)]), rfl, rfl, rfl, by rw [← ha2, ← ha3], rfl⟩
              · refine z_bipush C dX3_findFault_58 (by decide) ?_
                refine z_goto C (tgt := 67) dX3_findFault_60 (by decide) ?_
                try rw [PM_b]
                exact z_iret2 C hQ rfl dX3_findFault_67 ⟨zr (by rw [← ha1, ← ha3]; first | (rw [if_pos (by omega)]; done) | rw [if_neg (by omega)]), rfl, rfl, rfl, by rw [← ha2, ← ha3], rfl⟩
          · rw [show 80 - i = (80 - (i + 1)) + 1 by omega, fcL_s, if_pos (show ¬ B9 = 0 ∧ w 4 < w 2 from ⟨by omega, by omega⟩)] at he
            refine z_aload_n C dX3_findFault_32 rfl ?_
            refine z_callVd C (ci := 3) rfl (by decide) (by first | assumption | exact hM.1) (mX3_nextOrder l G hM hTw) (cwV 0 C.2.2.2.2.1 gv3_36 rfl rfl rfl hd_X3_nextOrder ⟨Nat.le_of_ble_eq_true rfl, Nat.le_of_ble_eq_true rfl⟩) rfl rfl (Nat.le_of_ble_eq_true rfl) dX3_findFault_33 ⟨Nat.zero_le _, Nat.zero_le _⟩ ?_
            refine z_istore_n C dX3_findFault_36 (by decide) rfl ?_
            refine z_iinc C dX3_findFault_37 rfl (by decide) rfl ?_
            refine z_goto C (tgt := 11) dX3_findFault_40 (by decide) ?_
            rw [show (i : Int) + 1 = ((i + 1 : Nat) : Int) by omega]
            exact ih (i + 1) _ _ _ (by omega) (by omega) hTw.e_noG hnb he
  refine z_aload_n C dX3_findFault_0 rfl ?_
  refine z_callVd C (ci := 3) rfl (by decide) (by first | assumption | exact hM.1) (mX3_rewind l G hM hT) (cwV 0 C.2.2.2.2.1 gv3_33 rfl rfl rfl hd_X3_rewind ⟨Nat.le_of_ble_eq_true rfl, Nat.le_of_ble_eq_true rfl⟩) rfl rfl (Nat.le_of_ble_eq_true rfl) dX3_findFault_1 ⟨Nat.zero_le _, Nat.zero_le _⟩ ?_
  refine z_aload_n C dX3_findFault_4 rfl ?_
  refine z_callVd C (ci := 3) rfl (by decide) (by first | assumption | exact hM.1) (mX3_nextOrder l G hM hT.e_z) (cwV 0 C.2.2.2.2.1 gv3_36 rfl rfl rfl hd_X3_nextOrder ⟨Nat.le_of_ble_eq_true rfl, Nat.le_of_ble_eq_true rfl⟩) rfl rfl (Nat.le_of_ble_eq_true rfl) dX3_findFault_5 ⟨Nat.zero_le _, Nat.zero_le _⟩ ?_
  refine z_istore_n C dX3_findFault_8 (by decide) rfl ?_
  refine z_iconst C dX3_findFault_9 ?_
  refine z_istore_n C dX3_findFault_10 (by decide) rfl ?_
  exact hloop 80 1 _ _ _ (by omega) (by omega) hT.e_z.e_noG (noB_01 _ _) rfl

