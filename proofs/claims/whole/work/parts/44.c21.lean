def nrC (f : Nat → Int) (w : Int) : Nat → Int × Int
  | 0 => (0, 2147483647)
  | k + 1 => if absz (prsA f (k : Int) - w) < (nrC f w k).2 ∨ (absz (prsA f (k : Int) - w) = (nrC f w k).2 ∧ popS (k : Int) 14 < popS (nrC f w k).1 14) then ((k : Int), absz (prsA f (k : Int) - w)) else nrC f w k
theorem nrC_s (f : Nat → Int) (w : Int) (k : Nat) : nrC f w (k + 1) = if absz (prsA f (k : Int) - w) < (nrC f w k).2 ∨ (absz (prsA f (k : Int) - w) = (nrC f w k).2 ∧ popS (k : Int) 14 < popS (nrC f w k).1 14) then ((k : Int), absz (prsA f (k : Int) - w)) else nrC f w k := rfl
theorem nrC_rng {f : Nat → Int} (h : Ok f) {w : Int} (hw : 0 ≤ w ∧ w < 2147483648) : ∀ k : Nat, (0 ≤ (nrC f w k).1 ∧ (nrC f w k).1 ≤ k) ∧ 0 ≤ (nrC f w k).2 ∧ (nrC f w k).2 < 2147483648
  | 0 => ⟨⟨by show (0 : Int) ≤ 0; omega, by show (0 : Int) ≤ 0; omega⟩, by show (0 : Int) ≤ 2147483647; omega, by show (2147483647 : Int) < 2147483648; omega⟩
  | k + 1 => by
    have ih := nrC_rng h hw k
    have hp := prsA_rng h (k : Int)
    rw [nrC_s]
    split
    · refine ⟨⟨by show (0 : Int) ≤ (k : Int); omega, by show (k : Int) ≤ ((k + 1 : Nat) : Int); omega⟩, ?_⟩
      show 0 ≤ absz _ ∧ absz _ < 2147483648
      unfold absz
      split <;> omega
    · exact ⟨⟨ih.1.1, by omega⟩, ih.2⟩
theorem nrC_nrA {f : Nat → Int} (h : Ok f) {w : Int} (hw : 0 ≤ w ∧ w < 2147483648) : ∀ k : Nat, nrC f w (k + 1) = nrA f w k
  | 0 => by
    have hp := prsA_rng h ((0 : Nat) : Int)
    rw [nrC_s]
    show (if absz (prsA f ((0 : Nat) : Int) - w) < 2147483647 ∨ (absz (prsA f ((0 : Nat) : Int) - w) = 2147483647 ∧ popS ((0 : Nat) : Int) 14 < popS 0 14) then (((0 : Nat) : Int), absz (prsA f ((0 : Nat) : Int) - w)) else ((0 : Int), (2147483647 : Int))) = (0, absz (prsA f 0 - w))
    have e0 : prsA f ((0 : Nat) : Int) = prsA f 0 := rfl
    rw [e0] at hp ⊢
    by_cases hc : absz (prsA f 0 - w) < 2147483647
    · rw [if_pos (Or.inl hc)]; rfl
    · have he : absz (prsA f 0 - w) = 2147483647 := by
        unfold absz at hc ⊢
        split at hc <;> split <;> omega
      rw [if_neg, he]
      rintro (z | z)
      · exact hc z
      · have z2 := z.2
        exact absurd z2 (Int.lt_irrefl _)
  | k + 1 => by rw [nrC_s, nrC_nrA h hw k]; rfl
set_option maxHeartbeats 4000000 in
set_option maxRecDepth 100000 in
theorem mX4_nearestTo (l : Launch) (G : GG) {z : Nat} {K N : Nat → Nat} {I : MI} {R : MR} {t : Nat} (hM : ShT G z K N R t) {f : Nat → Int} (hV : TN I t f) (hO : Ok f) {w : Int} (hw : 0 ≤ w ∧ w < 2147483648) : Cod l G yX4_nearestTo (Cond.code yX4_nearestTo cX4_nearestTo 7 (some .int) :: wsL_law) ⟨3, 0, 0, 64⟩ [.ref t, .int (zI w)] z K N I R (some (.int (zI (nrC f w ((2 ^ (f 3).toNat - 1 : Int).toNat + 1)).1))) I R := by
  refine Con.of (own := RX4) (cc := cX4_nearestTo) (maxL := 7) (ret := (some .int)) (by decide +kernel) rfl rfl (Nat.le_of_ble_eq_true rfl) (by decide) rfl ?_
  intro p e9 s mt args below meth c Q hin hQ C
  obtain ⟨ho, ⟨r0, r1, r2⟩, ⟨k1, k2, k3⟩, ⟨n1, n2, n3⟩, hg⟩ := id hM
  obtain ⟨⟨v0, v1, v2⟩, ⟨v3, v4, v5⟩, vr, vg⟩ := id hV
  obtain ⟨b0, b1, b2, b3, b4, b5, br, bg⟩ := id hO
  have b4b := Ok4 hO
  have hp14 : (2 : Int) ^ (f 3).toNat ≤ 16384 := pow_le (b := 14) (by omega)
  have hp0 := pow_pos2 (f 3).toNat
  have hm0 : massA f ((0 : Nat) : Int) = 100 := by unfold massA; exact massS_0 _ _
  have hloop : ∀ (n : Nat) (k : Nat), (k : Int) ≤ 2 ^ (f 3).toNat → 2 ^ (f 3).toNat - (k : Int) < n → Zq p l e9 ⟨3, 0, 0, 64⟩ s mt args below meth c G 7 Q 0 0 z K N I R 12 [(0, .ref t), (1, .int (zI w)), (2, .int (zI (nrC f w k).1)), (3, .int (zI (nrC f w k).2)), (4, .int (zI (massA f ((k : Nat) : Int)))), (5, .int (zI ((k : Nat) : Int)))] [] := by
    intro n
    induction n with
    | zero => intro k h1 h2; exact absurd h2 (by omega)
    | succ n ih =>
      intro k h1 h2
      have hn := nrC_rng hO hw k
      have hps := popS_rng (k : Int) 14
      have hps2 := popS_rng (nrC f w k).1 14
      have hpa := prsA_rng hO (k : Int)
      have hma := massA_rng hO (k : Int)
      have hmn : massA f (k : Int) + mnT (I (t + 2)) (k : Int) (I t 3).toNat = massA f ((k + 1 : Nat) : Int) := by
        rw [← hV.mass hO, ← hV.mass hO]
        exact (massS_mnT (F := I (t + 2)) (n := (I t 3).toNat) (by omega) (k : Int)).symm
      refine z_iload C dX4_nearestTo_12 rfl ?_
      refine z_iconst C dX4_nearestTo_14 ?_
      refine z_aload_n C dX4_nearestTo_15 rfl ?_
      refine z_gI C (ci := 4) (k := 3) rfl (by decide) rfl (by decide) wl_4 wq_5_3 rfl dX4_nearestTo_16 (by assumption) ?_
      refine z_ishl C dX4_nearestTo_19 (zI_shl (by omega)) ?_
      rw [v3]
      refine z_icmp_ge C (tgt := 89) dX4_nearestTo_20 (by decide) (by first | omega | exact b2i_r) (by first | omega | exact b2i_r) (fun h20 => ?_) (fun h20 => ?_)
      · refine z_iload_n C dX4_nearestTo_89 rfl ?_
        exact z_iret2 C hQ rfl dX4_nearestTo_90 ⟨zr (by rw [show (2 ^ (f 3).toNat - 1 : Int).toNat + 1 = k by omega]), rfl, rfl, rfl, rfl, rfl⟩
      · refine z_aload_n C dX4_nearestTo_23 rfl ?_
        refine z_iload C dX4_nearestTo_24 rfl ?_
        refine z_aload_n C dX4_nearestTo_26 rfl ?_
        refine z_gR C (ci := 4) (k := 0) rfl (by decide) rfl (by decide) wl_4 wq_2_16 (by decide) dX4_nearestTo_27 (by assumption) (by assumption) ?_
        refine z_iconst C dX4_nearestTo_30 ?_
        refine z_ialdk C (0) dX4_nearestTo_31 (by assumption) (by first | rfl | omega) (by omega) (by omega) ?_
        rw [v0]
        refine z_callVd C (ci := 4) rfl (by decide) (by first | assumption | exact hM.1) (mX4_pressureOf l G hM hV hO hma b0) (cwV 2 C.2.2.2.2.1 gv4_124 rfl rfl rfl hd_X4_pressureOf ⟨Nat.le_of_ble_eq_true rfl, Nat.le_of_ble_eq_true rfl⟩) rfl rfl (Nat.le_of_ble_eq_true rfl) dX4_nearestTo_32 ⟨Nat.zero_le _, Nat.zero_le _⟩ ?_
        rw [show prs (massA f (k : Int)) (f 0) (f 1) = prsA f (k : Int) from rfl]
        refine z_iload_n C dX4_nearestTo_35 rfl ?_
        refine z_isub C dX4_nearestTo_36 ?_
        refine z_abs C wq_23_4 wq_7_5 wq_7_6 wq_7_7 (Nat.le_of_ble_eq_true rfl) (Nat.le_of_ble_eq_true rfl) (Nat.zero_le _) (Nat.zero_le _) dX4_nearestTo_37 (by omega) ?_
        rw [show (if 0 ≤ (prsA f (k : Int) - w) then (prsA f (k : Int) - w) else -(prsA f (k : Int) - w)) = absz (prsA f (k : Int) - w) from by unfold absz; split <;> split <;> omega]
        have hab : 0 ≤ absz (prsA f (k : Int) - w) ∧ absz (prsA f (k : Int) - w) < 2147483648 := by unfold absz; split <;> omega
        refine z_istore C dX4_nearestTo_40 (by decide) rfl ?_
        refine z_iload C dX4_nearestTo_42 rfl ?_
        refine z_iload_n C dX4_nearestTo_44 rfl ?_
        refine z_icmp_lt C (tgt := 66) dX4_nearestTo_45 (by decide) (by first | omega | exact b2i_r) (by first | omega | exact b2i_r) (fun h45 => ?_) (fun h45 => ?_)
        · refine z_iload C dX4_nearestTo_66 rfl ?_
          refine z_istore_n C dX4_nearestTo_68 (by decide) rfl ?_
          refine z_iload C dX4_nearestTo_69 rfl ?_
          refine z_istore_n C dX4_nearestTo_71 (by decide) rfl ?_
          refine z_iload C dX4_nearestTo_72 rfl ?_
          refine z_aload_n C dX4_nearestTo_74 rfl ?_
          refine z_iload C dX4_nearestTo_75 rfl ?_
          refine z_callVd C (ci := 4) rfl (by decide) (by first | assumption | exact hM.1) (mX4_massToNext l G hM hV hO (sm := (k : Int)) (by omega)) (cwV 1 C.2.2.2.2.1 gv4_138 rfl rfl rfl hd_X4_massToNext ⟨Nat.le_of_ble_eq_true rfl, Nat.le_of_ble_eq_true rfl⟩) rfl rfl (Nat.le_of_ble_eq_true rfl) dX4_nearestTo_77 ⟨Nat.zero_le _, Nat.zero_le _⟩ ?_
          refine z_iadd C dX4_nearestTo_80 ?_
          rw [hmn]
          refine z_istore C dX4_nearestTo_81 (by decide) rfl ?_
          refine z_iinc C dX4_nearestTo_83 rfl (by decide) rfl ?_
          refine z_goto C (tgt := 12) dX4_nearestTo_86 (by decide) ?_
          have h9 := ih (k + 1) (by omega) (by omega)
          rw [show (k : Int) + 1 = ((k + 1 : Nat) : Int) by omega]
          first
          | (have e9 : nrC f w (k + 1) = ((k : Int), absz (prsA f (k : Int) - w)) := by rw [nrC_s, if_pos (by omega)]
             rw [e9] at h9
             exact z_sub [0, 1, 2, 3, 4, 5] rfl rfl h9)
          | (have e9 : nrC f w (k + 1) = nrC f w k := by rw [nrC_s, if_neg (by omega)]
             rw [e9] at h9
             exact z_sub [0, 1, 2, 3, 4, 5] rfl rfl h9)
        · refine z_iload C dX4_nearestTo_48 rfl ?_
          refine z_iload_n C dX4_nearestTo_50 rfl ?_
          refine z_icmp_ne C (tgt := 72) dX4_nearestTo_51 (by decide) (by first | omega | exact b2i_r) (by first | omega | exact b2i_r) (fun h51 => ?_) (fun h51 => ?_)
          · refine z_iload C dX4_nearestTo_72 rfl ?_
            refine z_aload_n C dX4_nearestTo_74 rfl ?_
            refine z_iload C dX4_nearestTo_75 rfl ?_
            refine z_callVd C (ci := 4) rfl (by decide) (by first | assumption | exact hM.1) (mX4_massToNext l G hM hV hO (sm := (k : Int)) (by omega)) (cwV 1 C.2.2.2.2.1 gv4_138 rfl rfl rfl hd_X4_massToNext ⟨Nat.le_of_ble_eq_true rfl, Nat.le_of_ble_eq_true rfl⟩) rfl rfl (Nat.le_of_ble_eq_true rfl) dX4_nearestTo_77 ⟨Nat.zero_le _, Nat.zero_le _⟩ ?_
            refine z_iadd C dX4_nearestTo_80 ?_
            rw [hmn]
            refine z_istore C dX4_nearestTo_81 (by decide) rfl ?_
            refine z_iinc C dX4_nearestTo_83 rfl (by decide) rfl ?_
            refine z_goto C (tgt := 12) dX4_nearestTo_86 (by decide) ?_
            have h9 := ih (k + 1) (by omega) (by omega)
            rw [show (k : Int) + 1 = ((k + 1 : Nat) : Int) by omega]
            first
            | (have e9 : nrC f w (k + 1) = ((k : Int), absz (prsA f (k : Int) - w)) := by rw [nrC_s, if_pos (by omega)]
               rw [e9] at h9
               exact z_sub [0, 1, 2, 3, 4, 5] rfl rfl h9)
            | (have e9 : nrC f w (k + 1) = nrC f w k := by rw [nrC_s, if_neg (by omega)]
               rw [e9] at h9
               exact z_sub [0, 1, 2, 3, 4, 5] rfl rfl h9)
          · refine z_iload C dX4_nearestTo_54 rfl ?_
            refine z_callSd C (mJ6_bitCount_0f7a4 l G (v := (k : Int)) (by omega)) (va_cwS 1 C.2.2.2.2.1 gv4_133 rfl rfl rfl hs_J6_bitCount_0f7a4 ⟨Nat.le_of_ble_eq_true rfl, Nat.le_of_ble_eq_true rfl⟩) rfl rfl (Nat.le_of_ble_eq_true rfl) dX4_nearestTo_56 ⟨Nat.zero_le _, Nat.zero_le _⟩ ?_
            refine z_iload_n C dX4_nearestTo_59 rfl ?_
            refine z_callSd C (mJ6_bitCount_0f7a4 l G (v := (nrC f w k).1) (by omega)) (va_cwS 1 C.2.2.2.2.1 gv4_133 rfl rfl rfl hs_J6_bitCount_0f7a4 ⟨Nat.le_of_ble_eq_true rfl, Nat.le_of_ble_eq_true rfl⟩) rfl rfl (Nat.le_of_ble_eq_true rfl) dX4_nearestTo_60 ⟨Nat.zero_le _, Nat.zero_le _⟩ ?_
            refine z_icmp_ge C (tgt := 72) dX4_nearestTo_63 (by decide) (by first | omega | exact b2i_r) (by first | omega | exact b2i_r) (fun h63 => ?_) (fun h63 => ?_)
            · refine z_iload C dX4_nearestTo_72 rfl ?_
              refine z_aload_n C dX4_nearestTo_74 rfl ?_
              refine z_iload C dX4_nearestTo_75 rfl ?_
              refine z_callVd C (ci := 4) rfl (by decide) (by first | assumption | exact hM.1) (mX4_massToNext l G hM hV hO (sm := (k : Int)) (by omega)) (cwV 1 C.2.2.2.2.1 gv4_138 rfl rfl rfl hd_X4_massToNext ⟨Nat.le_of_ble_eq_true rfl, Nat.le_of_ble_eq_true rfl⟩) rfl rfl (Nat.le_of_ble_eq_true rfl) dX4_nearestTo_77 ⟨Nat.zero_le _, Nat.zero_le _⟩ ?_
              refine z_iadd C dX4_nearestTo_80 ?_
              rw [hmn]
              refine z_istore C dX4_nearestTo_81 (by decide) rfl ?_
              refine z_iinc C dX4_nearestTo_83 rfl (by decide) rfl ?_
              refine z_goto C (tgt := 12) dX4_nearestTo_86 (by decide) ?_
              have h9 := ih (k + 1) (by omega) (by omega)
              rw [show (k : Int) + 1 = ((k + 1 : Nat) : Int) by omega]
              first
              | (have e9 : nrC f w (k + 1) = ((k : Int), absz (prsA f (k : Int) - w)) := by rw [nrC_s, if_pos (by omega)]
                 rw [e9] at h9
                 exact z_sub [0, 1, 2, 3, 4, 5] rfl rfl h9)
              | (have e9 : nrC f w (k + 1) = nrC f w k := by rw [nrC_s, if_neg (by omega)]
                 rw [e9] at h9
                 exact z_sub [0, 1, 2, 3, 4, 5] rfl rfl h9)
            · refine z_iload C dX4_nearestTo_66 rfl ?_
              refine z_istore_n C dX4_nearestTo_68 (by decide) rfl ?_
              refine z_iload C dX4_nearestTo_69 rfl ?_
              refine z_istore_n C dX4_nearestTo_71 (by decide) rfl ?_
              refine z_iload C dX4_nearestTo_72 rfl ?_
              refine z_aload_n C dX4_nearestTo_74 rfl ?_
              refine z_iload C dX4_nearestTo_75 rfl ?_
              refine z_callVd C (ci := 4) rfl (by decide) (by first | assumption | exact hM.1) (mX4_massToNext l G hM hV hO (sm := (k : Int)) (by omega)) (cwV 1 C.2.2.2.2.1 gv4_138 rfl rfl rfl hd_X4_massToNext ⟨Nat.le_of_ble_eq_true rfl, Nat.le_of_ble_eq_true rfl⟩) rfl rfl (Nat.le_of_ble_eq_true rfl) dX4_nearestTo_77 ⟨Nat.zero_le _, Nat.zero_le _⟩ ?_
              refine z_iadd C dX4_nearestTo_80 ?_
              rw [hmn]
              refine z_istore C dX4_nearestTo_81 (by decide) rfl ?_
              refine z_iinc C dX4_nearestTo_83 rfl (by decide) rfl ?_
              refine z_goto C (tgt := 12) dX4_nearestTo_86 (by decide) ?_
              have h9 := ih (k + 1) (by omega) (by omega)
              rw [show (k : Int) + 1 = ((k + 1 : Nat) : Int) by omega]
              first
              | (have e9 : nrC f w (k + 1) = ((k : Int), absz (prsA f (k : Int) - w)) := by rw [nrC_s, if_pos (by omega)]
                 rw [e9] at h9
                 exact z_sub [0, 1, 2, 3, 4, 5] rfl rfl h9)
              | (have e9 : nrC f w (k + 1) = nrC f w k := by rw [nrC_s, if_neg (by omega)]
                 rw [e9] at h9
                 exact z_sub [0, 1, 2, 3, 4, 5] rfl rfl h9)
  refine z_iconst C dX4_nearestTo_0 ?_
  refine z_istore_n C dX4_nearestTo_1 (by decide) rfl ?_
  refine z_ldc C (n := 2147483647) dX4_nearestTo_2 wq_23_3 ?_
  refine z_istore_n C dX4_nearestTo_4 (by decide) rfl ?_
  refine z_bipush C dX4_nearestTo_5 (by decide) ?_
  refine z_istore C dX4_nearestTo_7 (by decide) rfl ?_
  refine z_iconst C dX4_nearestTo_9 ?_
  refine z_istore C dX4_nearestTo_10 (by decide) rfl ?_
  refine z_conv (lv' := [(0, .ref t), (1, .int (zI w)), (2, .int (zI (nrC f w 0).1)), (3, .int (zI (nrC f w 0).2)), (4, .int (zI (massA f ((0 : Nat) : Int)))), (5, .int (zI ((0 : Nat) : Int)))]) rfl rfl (by rw [hm0]; rfl) rfl ?_
  exact hloop 16385 0 (by omega) (by omega)

