/-- what the mass gains from one set of rings to the next -/
def mnL (F : Nat → Int) (sm : Int) (n : Nat) : Nat → Nat → Int → Int
  | 0, _, g => g
  | q + 1, i, g => if i < n then (if sm / 2 ^ i % 2 = 1 then mnL F sm n q (i + 1) (g - F i) else g + F i) else g
theorem mnL_s (F : Nat → Int) (sm : Int) (n q i : Nat) (g : Int) : mnL F sm n (q + 1) i g = if i < n then (if sm / 2 ^ i % 2 = 1 then mnL F sm n q (i + 1) (g - F i) else g + F i) else g := rfl
def mnT (F : Nat → Int) (sm : Int) (n : Nat) : Int := mnL F sm n 15 0 0
set_option maxHeartbeats 4000000 in
set_option maxRecDepth 100000 in
theorem mX4_massToNext (l : Launch) (G : GG) {z : Nat} {K N : Nat → Nat} {I : MI} {R : MR} {t : Nat} (hM : ShT G z K N R t) {f : Nat → Int} (hV : TN I t f) (hO : Ok f) {sm : Int} (hs : 0 ≤ sm ∧ sm < 2147483648) : Cod l G yX4_massToNext (Cond.code yX4_massToNext cX4_massToNext 4 (some .int) :: wsL_law) ⟨0, 0, 0, 0⟩ [.ref t, .int (zI sm)] z K N I R (some (.int (zI (mnT (I (t + 2)) sm (I t 3).toNat)))) I R := by
  refine Con.of (own := RX4) (cc := cX4_massToNext) (maxL := 4) (ret := (some .int)) (by decide +kernel) rfl rfl (Nat.le_of_ble_eq_true rfl) (by decide) rfl ?_
  intro p e9 s mt args below meth c Q hin hQ C
  obtain ⟨ho, ⟨r0, r1, r2⟩, ⟨k1, k2, k3⟩, ⟨n1, n2, n3⟩, hg⟩ := id hM
  obtain ⟨⟨v0, v1, v2⟩, ⟨v3, v4, v5⟩, vr, vg⟩ := id hV
  obtain ⟨b0, b1, b2, b3, b4, b5, br, bg⟩ := id hO
  have b4b := Ok4 hO
  have hloop : ∀ (q : Nat) (i : Nat) (v : Int), (i : Int) ≤ I t 3 → I t 3 - i < q → -140000 - 9999 * (0 : Int) ≤ v + 0 ∧ v ≤ 0 ∧ -9999 * (i : Int) ≤ v → mnL (I (t + 2)) sm (I t 3).toNat (15 - i) i v = mnT (I (t + 2)) sm (I t 3).toNat → Zq p l e9 ⟨0, 0, 0, 0⟩ s mt args below meth c G 4 Q 0 0 z K N I R 4 [(0, .ref t), (1, .int (zI sm)), (2, .int (zI v)), (3, .int (zI (i : Int)))] [] := by
    intro q
    induction q with
    | zero => intro i v h1 h2; exact absurd h2 (by omega)
    | succ q ih =>
      intro i v h1 h2 hv he
      rw [show 15 - i = (14 - i) + 1 by omega, mnL_s] at he
      have h01 := bit01 (sm / 2 ^ i)
      refine z_iload_n C dX4_massToNext_4 rfl ?_
      refine z_aload_n C dX4_massToNext_5 rfl ?_
      refine z_gI C (ci := 4) (k := 3) rfl (by decide) rfl (by decide) wl_4 wq_5_3 rfl dX4_massToNext_6 (by assumption) ?_
      refine z_icmp_ge C (tgt := 36) dX4_massToNext_9 (by decide) (by first | omega | exact b2i_r) (by first | omega | exact b2i_r) (fun h9 => ?_) (fun h9 => ?_)
      · refine z_iload_n C dX4_massToNext_36 rfl ?_
        refine z_aload_n C dX4_massToNext_37 rfl ?_
        refine z_gI C (ci := 4) (k := 3) rfl (by decide) rfl (by decide) wl_4 wq_5_3 rfl dX4_massToNext_38 (by assumption) ?_
        refine z_icmp_ge C (tgt := 55) dX4_massToNext_41 (by decide) (by first | omega | exact b2i_r) (by first | omega | exact b2i_r) (fun h41 => ?_) (fun h41 => ?_)
        · refine z_iload_n C dX4_massToNext_55 rfl ?_
          exact z_iret2 C hQ rfl dX4_massToNext_56 ⟨zr (by rw [← he]; first | (exfalso; omega) | (rw [if_neg (show ¬ i < (I t 3).toNat by omega)]; done) | rw [if_pos (show i < (I t 3).toNat by omega), if_neg (show ¬ sm / 2 ^ i % 2 = 1 from h18)]), rfl, rfl, rfl, rfl, rfl⟩
        · have hi1 := vr i (by omega)
          have hi2 := br i (by omega)
          refine z_iload_n C dX4_massToNext_44 rfl ?_
          refine z_aload_n C dX4_massToNext_45 rfl ?_
          refine z_gR C (ci := 4) (k := 1) rfl (by decide) rfl (by decide) wl_4 wq_2_18 (by decide) dX4_massToNext_46 (by assumption) (by assumption) ?_
          refine z_iload_n C dX4_massToNext_49 rfl ?_
          refine z_ialdk C (i) dX4_massToNext_50 (by assumption) (by first | rfl | omega) (by omega) (by omega) ?_
          refine z_iadd C dX4_massToNext_51 ?_
          refine z_goto C (tgt := 56) dX4_massToNext_52 (by decide) ?_
          exact z_iret2 C hQ rfl dX4_massToNext_56 ⟨zr (by rw [← he]; first | (exfalso; omega) | (rw [if_neg (show ¬ i < (I t 3).toNat by omega)]; done) | rw [if_pos (show i < (I t 3).toNat by omega), if_neg (show ¬ sm / 2 ^ i % 2 = 1 from h18)]), rfl, rfl, rfl, rfl, rfl⟩
      · have hi1 := vr i (by omega)
        have hi2 := br i (by omega)
        refine z_iload_n C dX4_massToNext_12 rfl ?_
        refine z_iload_n C dX4_massToNext_13 rfl ?_
        refine z_ishr C dX4_massToNext_14 (zI_shr (by omega) (by omega)) ?_
        refine z_iconst C dX4_massToNext_15 ?_
        refine z_iand C dX4_massToNext_16 (zI_and1 _) ?_
        refine z_iconst C dX4_massToNext_17 ?_
        refine z_icmp_ne C (tgt := 36) dX4_massToNext_18 (by decide) (by first | omega | exact b2i_r) (by first | omega | exact b2i_r) (fun h18 => ?_) (fun h18 => ?_)
        · refine z_iload_n C dX4_massToNext_36 rfl ?_
          refine z_aload_n C dX4_massToNext_37 rfl ?_
          refine z_gI C (ci := 4) (k := 3) rfl (by decide) rfl (by decide) wl_4 wq_5_3 rfl dX4_massToNext_38 (by assumption) ?_
          refine z_icmp_ge C (tgt := 55) dX4_massToNext_41 (by decide) (by first | omega | exact b2i_r) (by first | omega | exact b2i_r) (fun h41 => ?_) (fun h41 => ?_)
          · refine z_iload_n C dX4_massToNext_55 rfl ?_
            exact z_iret2 C hQ rfl dX4_massToNext_56 ⟨zr (by rw [← he]; first | (exfalso; omega) | (rw [if_neg (show ¬ i < (I t 3).toNat by omega)]; done) | rw [if_pos (show i < (I t 3).toNat by omega), if_neg (show ¬ sm / 2 ^ i % 2 = 1 from h18)]), rfl, rfl, rfl, rfl, rfl⟩
          · have hi1 := vr i (by omega)
            have hi2 := br i (by omega)
            refine z_iload_n C dX4_massToNext_44 rfl ?_
            refine z_aload_n C dX4_massToNext_45 rfl ?_
            refine z_gR C (ci := 4) (k := 1) rfl (by decide) rfl (by decide) wl_4 wq_2_18 (by decide) dX4_massToNext_46 (by assumption) (by assumption) ?_
            refine z_iload_n C dX4_massToNext_49 rfl ?_
            refine z_ialdk C (i) dX4_massToNext_50 (by assumption) (by first | rfl | omega) (by omega) (by omega) ?_
            refine z_iadd C dX4_massToNext_51 ?_
            refine z_goto C (tgt := 56) dX4_massToNext_52 (by decide) ?_
            exact z_iret2 C hQ rfl dX4_massToNext_56 ⟨zr (by rw [← he]; first | (exfalso; omega) | (rw [if_neg (show ¬ i < (I t 3).toNat by omega)]; done) | rw [if_pos (show i < (I t 3).toNat by omega), if_neg (show ¬ sm / 2 ^ i % 2 = 1 from h18)]), rfl, rfl, rfl, rfl, rfl⟩
        · have hb9 : sm / 2 ^ i % 2 = 1 := h18
          rw [if_pos (show i < (I t 3).toNat by omega), if_pos hb9] at he
          refine z_iload_n C dX4_massToNext_21 rfl ?_
          refine z_aload_n C dX4_massToNext_22 rfl ?_
          refine z_gR C (ci := 4) (k := 1) rfl (by decide) rfl (by decide) wl_4 wq_2_18 (by decide) dX4_massToNext_23 (by assumption) (by assumption) ?_
          refine z_iload_n C dX4_massToNext_26 rfl ?_
          refine z_ialdk C (i) dX4_massToNext_27 (by assumption) (by first | rfl | omega) (by omega) (by omega) ?_
          refine z_isub C dX4_massToNext_28 ?_
          refine z_istore_n C dX4_massToNext_29 (by decide) rfl ?_
          refine z_iinc C dX4_massToNext_30 rfl (by decide) rfl ?_
          refine z_goto C (tgt := 4) dX4_massToNext_33 (by decide) ?_
          rw [show (i : Int) + 1 = ((i + 1 : Nat) : Int) by omega]
          exact ih (i + 1) _ (by omega) (by omega) (by omega) (by rw [show 15 - (i + 1) = 14 - i by omega]; exact he)
  refine z_iconst C dX4_massToNext_0 ?_
  refine z_istore_n C dX4_massToNext_1 (by decide) rfl ?_
  refine z_iconst C dX4_massToNext_2 ?_
  refine z_istore_n C dX4_massToNext_3 (by decide) rfl ?_
  exact hloop 15 0 0 (by omega) (by omega) (by omega) rfl

