theorem beL_s (w : Nat → Int) (i : Nat) : beL w (i + 1) = if beL w i = -6 ∨ w i < beL w i then w i else beL w i := rfl
theorem beB_s (w : Nat → Int) (i : Nat) : beB w (i + 1) = if beL w i = -6 ∨ w i < beL w i then (i : Int) - 99 else beB w i := rfl
theorem nrA_s (f : Nat → Int) (w : Int) (k : Nat) : nrA f w (k + 1) = if absz (prsA f ((k + 1 : Nat) : Int) - w) < (nrA f w k).2 ∨ (absz (prsA f ((k + 1 : Nat) : Int) - w) = (nrA f w k).2 ∧ popS ((k + 1 : Nat) : Int) 14 < popS (nrA f w k).1 14) then (((k + 1 : Nat) : Int), absz (prsA f ((k + 1 : Nat) : Int) - w)) else nrA f w k := rfl
theorem bestM_1 (I : MI) (o g i : Nat) : bestM I o g i (o + 1) = I (o + 1) := by
  unfold bestM
  split
  · rfl
  · exact tstM_r _ _ _ _ _ _ _ (by omega) (by omega) (by omega)
theorem bestM_s (I : MI) (o g i : Nat) : tstM (bestM I o g i) o ((i : Int) - 99) (I (o + 1) (21 + 36 * g)) (I (o + 1) (22 + 36 * g)) (2 * (I (o + 1) 3).toNat) = bestM I o g (i + 1) := by
  have e : bestM I o g (i + 1) = tstM I o ((i : Int) - 99) (I (o + 1) (21 + 36 * g)) (I (o + 1) (22 + 36 * g)) (2 * (I (o + 1) 3).toNat) := by
    unfold bestM
    rw [if_neg (by omega), show ((i + 1 : Nat) : Int) - 100 = (i : Int) - 99 by omega]
  rw [e]
  unfold bestM
  split
  · rfl
  · exact tstM_t _ _ _ _ _ _ _ _ _
theorem bestM_9 (I : MI) (o g i : Nat) : bestM I o g (i + 1) o 9 = beW (I (o + 1)) g i := by
  rw [← bestM_s, tstM_9, bestM_1]
  rfl
theorem beL_rng {w : Nat → Int} {m : Int} {n : Nat} (hw : ∀ i, i < n → 0 ≤ w i ∧ w i ≤ m) (hm : 0 ≤ m) : ∀ i, i ≤ n → -6 ≤ beL w i ∧ beL w i ≤ m ∧ -99 ≤ beB w i ∧ beB w i ≤ i
  | 0, _ => by simp [beL, beB]; omega
  | i + 1, h => by
    have ih := beL_rng hw hm i (by omega)
    have := hw i (by omega)
    unfold beL beB
    split <;> omega
set_option maxHeartbeats 4000000 in
set_option maxRecDepth 100000 in
theorem mX7_bestError (l : Launch) (G : GG) {z : Nat} {K N : Nat → Nat} {I : MI} {R : MR} {o : Nat} (hM : ShM G z K N R o) (hO : Ok (I (o + 1))) {gg wh : Int} (hgg : -2147483648 ≤ gg ∧ gg < 2147483648) (hwh : -2147483648 ≤ wh ∧ wh < 2147483648) : Cod l G yX7_bestError (Cond.code yX7_bestError cX7_bestError 7 (some .int) :: wsL_law) ⟨5, 0, 0, 115⟩ [.ref o, .int (zI gg), .int (zI wh)] z K N I R (some (.int (zI (if 0 ≤ gg ∧ gg ≤ I (o + 1) 5 - 1 then (if 0 ≤ wh ∧ wh ≤ 1 then (if I (o + 1) 3 = 0 then -5 else (if wh = 0 then beB (beW (I (o + 1)) gg.toNat) 199 + 100 else beL (beW (I (o + 1)) gg.toNat) 199)) else -2) else -1)))) (if (0 ≤ gg ∧ gg ≤ I (o + 1) 5 - 1) ∧ (0 ≤ wh ∧ wh ≤ 1) ∧ ¬ I (o + 1) 3 = 0 then bestM I o gg.toNat 199 else I) R := by
  refine Con.of (own := RX7) (cc := cX7_bestError) (maxL := 7) (ret := (some .int)) (by decide +kernel) rfl rfl (Nat.le_of_ble_eq_true rfl) (by decide) rfl ?_
  intro p e9 s mt args below meth c Q hin hQ C
  obtain ⟨ho, ⟨r0, r1, r3, r4, r5, r7, r8⟩, ⟨k1, k2, k3, k4, k5, k6, k7⟩, n1, n2, n3, n4, n5, n6, n7⟩ := id hM
  have h5 := hO.2.2.2.2.2.1
  have h3 := hO.2.2.2.1
  have hloop : ∀ (g : Nat), (g : Int) < I (o + 1) 5 → 0 < I (o + 1) 3 → gg = (g : Int) → 0 ≤ wh ∧ wh ≤ 1 → ∀ (n : Nat) (i : Nat), i ≤ 199 → 199 - i < n → Zq p l e9 ⟨5, 0, 0, 115⟩ s mt args below meth c G 7 Q 0 0 z K N (bestM I o g i) R 45 [(0, .ref o), (1, .int (zI (g : Int))), (2, .int (zI wh)), (3, .int (zI (beB (beW (I (o + 1)) g) i))), (4, .int (zI (beL (beW (I (o + 1)) g) i))), (5, .int (zI ((i : Int) - 99)))] [] := by
    intro g hg h30 hgg9 hwh9 n
    subst hgg9
    simp only [Int.toNat_natCast] at hQ
    obtain ⟨c1, c2, c3, c4, c5⟩ := hO.2.2.2.2.2.2.2 g hg
    have hw : ∀ i : Nat, i < 199 → 0 ≤ beW (I (o + 1)) g i ∧ beW (I (o + 1)) g i ≤ 16000198 := fun i hi => gTst_rng hO h30 hg (by omega)
    have hb1 : 0 ≤ (g : Int) ∧ (g : Int) ≤ I (o + 1) 5 - 1 := by omega
    have hb3 : ¬ I (o + 1) 3 = 0 := by omega
    induction n with
    | zero => intro i h1 h2; exact absurd h2 (by omega)
    | succ n ih =>
      intro i h1 h2
      have hl := beL_rng hw (by omega) i (by omega)
      refine z_iload C dX7_bestError_45 rfl ?_
      refine z_bipush C dX7_bestError_47 (by decide) ?_
      refine z_icmp_gt C (tgt := 116) dX7_bestError_49 (by decide) (by first | omega | exact b2i_r) (by first | omega | exact b2i_r) (fun h49 => ?_) (fun h49 => ?_)
      · refine z_iload_n C dX7_bestError_116 rfl ?_
        refine z_if_ne C (tgt := 127) dX7_bestError_117 (by decide) (by first | omega | exact b2i_r) (fun h117 => ?_) (fun h117 => ?_)
        · refine z_iload C dX7_bestError_127 rfl ?_
          exact z_iret2 C hQ rfl dX7_bestError_129 ⟨zr (by rw [if_pos hb1, if_pos hwh9, if_neg hb3, show i = 199 by omega]; first | (rw [if_pos (by omega)]; done) | (rw [if_neg (by omega)]; done)), rfl, rfl, rfl, by rw [show i = 199 by omega]; exact (if_pos ⟨hb1, hwh9, hb3⟩).symm, rfl⟩
        · refine z_iload_n C dX7_bestError_120 rfl ?_
          refine z_bipush C dX7_bestError_121 (by decide) ?_
          refine z_iadd C dX7_bestError_123 ?_
          refine z_goto C (tgt := 129) dX7_bestError_124 (by decide) ?_
          exact z_iret2 C hQ rfl dX7_bestError_129 ⟨zr (by rw [if_pos hb1, if_pos hwh9, if_neg hb3, show i = 199 by omega]; first | (rw [if_pos (by omega)]; done) | (rw [if_neg (by omega)]; done)), rfl, rfl, rfl, by rw [show i = 199 by omega]; exact (if_pos ⟨hb1, hwh9, hb3⟩).symm, rfl⟩
      · refine z_aload_n C dX7_bestError_52 rfl ?_
        refine z_iload_n C dX7_bestError_53 rfl ?_
        refine z_iload C dX7_bestError_54 rfl ?_
        refine z_callVd C (ci := 7) rfl (by decide) (by first | assumption | exact hM.1) (mX7_tests l G hM (by rw [bestM_1]; exact hO) (g := g) (by rw [bestM_1]; exact hg) (er := (i : Int) - 99) (by omega)) (cwV 2 C.2.2.2.2.1 gv7_146 rfl rfl rfl hd_X7_tests ⟨Nat.le_of_ble_eq_true rfl, Nat.le_of_ble_eq_true rfl⟩) rfl rfl (Nat.le_of_ble_eq_true rfl) dX7_bestError_56 ⟨Nat.zero_le _, Nat.zero_le _⟩ ?_
        rw [bestM_1, bestM_s]
        have hwi := hw i (by omega)
        refine z_iload C dX7_bestError_59 rfl ?_
        refine z_bipush C dX7_bestError_61 (by decide) ?_
        refine z_icmp_eq C (tgt := 75) dX7_bestError_63 (by decide) (by first | omega | exact b2i_r) (by first | omega | exact b2i_r) (fun h63 => ?_) (fun h63 => ?_)
        · refine z_iconst C dX7_bestError_75 ?_
          refine z_goto C (tgt := 80) dX7_bestError_76 (by decide) ?_
          refine z_istore C dX7_bestError_80 (by decide) rfl ?_
          refine z_iload C dX7_bestError_82 rfl ?_
          refine z_if_eq C (tgt := 92) dX7_bestError_84 (by decide) (by first | omega | exact b2i_r) (fun h84 => ?_) (fun h84 => ?_)
          · refine z_iload_n C dX7_bestError_92 rfl ?_
            refine z_top (y := .int (zI (beB (beW (I (o + 1)) g) (i + 1)))) (congrArg (fun x => Value.int (zI x)) (by first | (exfalso; omega) | (rw [beB_s]; first | rw [if_pos (by omega)] | rw [if_neg (by omega)]))) ?_
            refine z_istore_n C dX7_bestError_93 (by decide) rfl ?_
            refine z_iload C dX7_bestError_94 rfl ?_
            refine z_if_eq C (tgt := 106) dX7_bestError_96 (by decide) (by first | omega | exact b2i_r) (fun h96 => ?_) (fun h96 => ?_)
            · refine z_iload C dX7_bestError_106 rfl ?_
              refine z_top (y := .int (zI (beL (beW (I (o + 1)) g) (i + 1)))) (congrArg (fun x => Value.int (zI x)) (by first | (exfalso; omega) | (rw [beL_s]; first | (rw [if_pos (by omega)]; exact bestM_9 _ _ _ _) | (rw [if_neg (by omega)]; done) | rw [if_neg (by omega)]))) ?_
              refine z_istore C dX7_bestError_108 (by decide) rfl ?_
              refine z_iinc C dX7_bestError_110 rfl (by decide) rfl ?_
              rw [show (i : Int) - 99 + 1 = ((i + 1 : Nat) : Int) - 99 by omega]
              refine z_goto C (tgt := 45) dX7_bestError_113 (by decide) ?_
              exact z_sub [0, 1, 2, 3, 4, 5] rfl rfl (ih (i + 1) (by omega) (by omega))
            · refine z_aload_n C dX7_bestError_99 rfl ?_
              refine z_gI C (ci := 7) (k := 9) rfl (by decide) rfl (by decide) wl_7 wq_19_1 rfl dX7_bestError_100 (by assumption) ?_
              refine z_goto C (tgt := 108) dX7_bestError_103 (by decide) ?_
              refine z_top (y := .int (zI (beL (beW (I (o + 1)) g) (i + 1)))) (congrArg (fun x => Value.int (zI x)) (by first | (exfalso; omega) | (rw [beL_s]; first | (rw [if_pos (by omega)]; exact bestM_9 _ _ _ _) | (rw [if_neg (by omega)]; done) | rw [if_neg (by omega)]))) ?_
              refine z_istore C dX7_bestError_108 (by decide) rfl ?_
              refine z_iinc C dX7_bestError_110 rfl (by decide) rfl ?_
              rw [show (i : Int) - 99 + 1 = ((i + 1 : Nat) : Int) - 99 by omega]
              refine z_goto C (tgt := 45) dX7_bestError_113 (by decide) ?_
              exact z_sub [0, 1, 2, 3, 4, 5] rfl rfl (ih (i + 1) (by omega) (by omega))
          · refine z_iload C dX7_bestError_87 rfl ?_
            refine z_goto C (tgt := 93) dX7_bestError_89 (by decide) ?_
            refine z_top (y := .int (zI (beB (beW (I (o + 1)) g) (i + 1)))) (congrArg (fun x => Value.int (zI x)) (by first | (exfalso; omega) | (rw [beB_s]; first | rw [if_pos (by omega)] | rw [if_neg (by omega)]))) ?_
            refine z_istore_n C dX7_bestError_93 (by decide) rfl ?_
            refine z_iload C dX7_bestError_94 rfl ?_
            refine z_if_eq C (tgt := 106) dX7_bestError_96 (by decide) (by first | omega | exact b2i_r) (fun h96 => ?_) (fun h96 => ?_)
            · refine z_iload C dX7_bestError_106 rfl ?_
              refine z_top (y := .int (zI (beL (beW (I (o + 1)) g) (i + 1)))) (congrArg (fun x => Value.int (zI x)) (by first | (exfalso; omega) | (rw [beL_s]; first | (rw [if_pos (by omega)]; exact bestM_9 _ _ _ _) | (rw [if_neg (by omega)]; done) | rw [if_neg (by omega)]))) ?_
              refine z_istore C dX7_bestError_108 (by decide) rfl ?_
              refine z_iinc C dX7_bestError_110 rfl (by decide) rfl ?_
              rw [show (i : Int) - 99 + 1 = ((i + 1 : Nat) : Int) - 99 by omega]
              refine z_goto C (tgt := 45) dX7_bestError_113 (by decide) ?_
              exact z_sub [0, 1, 2, 3, 4, 5] rfl rfl (ih (i + 1) (by omega) (by omega))
            · refine z_aload_n C dX7_bestError_99 rfl ?_
              refine z_gI C (ci := 7) (k := 9) rfl (by decide) rfl (by decide) wl_7 wq_19_1 rfl dX7_bestError_100 (by assumption) ?_
              refine z_goto C (tgt := 108) dX7_bestError_103 (by decide) ?_
              refine z_top (y := .int (zI (beL (beW (I (o + 1)) g) (i + 1)))) (congrArg (fun x => Value.int (zI x)) (by first | (exfalso; omega) | (rw [beL_s]; first | (rw [if_pos (by omega)]; exact bestM_9 _ _ _ _) | (rw [if_neg (by omega)]; done) | rw [if_neg (by omega)]))) ?_
              refine z_istore C dX7_bestError_108 (by decide) rfl ?_
              refine z_iinc C dX7_bestError_110 rfl (by decide) rfl ?_
              rw [show (i : Int) - 99 + 1 = ((i + 1 : Nat) : Int) - 99 by omega]
              refine z_goto C (tgt := 45) dX7_bestError_113 (by decide) ?_
              exact z_sub [0, 1, 2, 3, 4, 5] rfl rfl (ih (i + 1) (by omega) (by omega))
        · refine z_aload_n C dX7_bestError_66 rfl ?_
          refine z_gI C (ci := 7) (k := 9) rfl (by decide) rfl (by decide) wl_7 wq_19_1 rfl dX7_bestError_67 (by assumption) ?_
          rw [bestM_9]
          refine z_iload C dX7_bestError_70 rfl ?_
          refine z_icmp_ge C (tgt := 79) dX7_bestError_72 (by decide) (by first | omega | exact b2i_r) (by first | omega | exact b2i_r) (fun h72 => ?_) (fun h72 => ?_)
          · refine z_iconst C dX7_bestError_79 ?_
            refine z_istore C dX7_bestError_80 (by decide) rfl ?_
            refine z_iload C dX7_bestError_82 rfl ?_
            refine z_if_eq C (tgt := 92) dX7_bestError_84 (by decide) (by first | omega | exact b2i_r) (fun h84 => ?_) (fun h84 => ?_)
            · refine z_iload_n C dX7_bestError_92 rfl ?_
              refine z_top (y := .int (zI (beB (beW (I (o + 1)) g) (i + 1)))) (congrArg (fun x => Value.int (zI x)) (by first | (exfalso; omega) | (rw [beB_s]; first | rw [if_pos (by omega)] | rw [if_neg (by omega)]))) ?_
              refine z_istore_n C dX7_bestError_93 (by decide) rfl ?_
              refine z_iload C dX7_bestError_94 rfl ?_
              refine z_if_eq C (tgt := 106) dX7_bestError_96 (by decide) (by first | omega | exact b2i_r) (fun h96 => ?_) (fun h96 => ?_)
              · refine z_iload C dX7_bestError_106 rfl ?_
                refine z_top (y := .int (zI (beL (beW (I (o + 1)) g) (i + 1)))) (congrArg (fun x => Value.int (zI x)) (by first | (exfalso; omega) | (rw [beL_s]; first | (rw [if_pos (by omega)]; exact bestM_9 _ _ _ _) | (rw [if_neg (by omega)]; done) | rw [if_neg (by omega)]))) ?_
                refine z_istore C dX7_bestError_108 (by decide) rfl ?_
                refine z_iinc C dX7_bestError_110 rfl (by decide) rfl ?_
                rw [show (i : Int) - 99 + 1 = ((i + 1 : Nat) : Int) - 99 by omega]
                refine z_goto C (tgt := 45) dX7_bestError_113 (by decide) ?_
                exact z_sub [0, 1, 2, 3, 4, 5] rfl rfl (ih (i + 1) (by omega) (by omega))
              · refine z_aload_n C dX7_bestError_99 rfl ?_
                refine z_gI C (ci := 7) (k := 9) rfl (by decide) rfl (by decide) wl_7 wq_19_1 rfl dX7_bestError_100 (by assumption) ?_
                refine z_goto C (tgt := 108) dX7_bestError_103 (by decide) ?_
                refine z_top (y := .int (zI (beL (beW (I (o + 1)) g) (i + 1)))) (congrArg (fun x => Value.int (zI x)) (by first | (exfalso; omega) | (rw [beL_s]; first | (rw [if_pos (by omega)]; exact bestM_9 _ _ _ _) | (rw [if_neg (by omega)]; done) | rw [if_neg (by omega)]))) ?_
                refine z_istore C dX7_bestError_108 (by decide) rfl ?_
                refine z_iinc C dX7_bestError_110 rfl (by decide) rfl ?_
                rw [show (i : Int) - 99 + 1 = ((i + 1 : Nat) : Int) - 99 by omega]
                refine z_goto C (tgt := 45) dX7_bestError_113 (by decide) ?_
                exact z_sub [0, 1, 2, 3, 4, 5] rfl rfl (ih (i + 1) (by omega) (by omega))
            · refine z_iload C dX7_bestError_87 rfl ?_
              refine z_goto C (tgt := 93) dX7_bestError_89 (by decide) ?_
              refine z_top (y := .int (zI (beB (beW (I (o + 1)) g) (i + 1)))) (congrArg (fun x => Value.int (zI x)) (by first | (exfalso; omega) | (rw [beB_s]; first | rw [if_pos (by omega)] | rw [if_neg (by omega)]))) ?_
              refine z_istore_n C dX7_bestError_93 (by decide) rfl ?_
              refine z_iload C dX7_bestError_94 rfl ?_
              refine z_if_eq C (tgt := 106) dX7_bestError_96 (by decide) (by first | omega | exact b2i_r) (fun h96 => ?_) (fun h96 => ?_)
              · refine z_iload C dX7_bestError_106 rfl ?_
                refine z_top (y := .int (zI (beL (beW (I (o + 1)) g) (i + 1)))) (congrArg (fun x => Value.int (zI x)) (by first | (exfalso; omega) | (rw [beL_s]; first | (rw [if_pos (by omega)]; exact bestM_9 _ _ _ _) | (rw [if_neg (by omega)]; done) | rw [if_neg (by omega)]))) ?_
                refine z_istore C dX7_bestError_108 (by decide) rfl ?_
                refine z_iinc C dX7_bestError_110 rfl (by decide) rfl ?_
                rw [show (i : Int) - 99 + 1 = ((i + 1 : Nat) : Int) - 99 by omega]
                refine z_goto C (tgt := 45) dX7_bestError_113 (by decide) ?_
                exact z_sub [0, 1, 2, 3, 4, 5] rfl rfl (ih (i + 1) (by omega) (by omega))
              · refine z_aload_n C dX7_bestError_99 rfl ?_
                refine z_gI C (ci := 7) (k := 9) rfl (by decide) rfl (by decide) wl_7 wq_19_1 rfl dX7_bestError_100 (by assumption) ?_
                refine z_goto C (tgt := 108) dX7_bestError_103 (by decide) ?_
                refine z_top (y := .int (zI (beL (beW (I (o + 1)) g) (i + 1)))) (congrArg (fun x => Value.int (zI x)) (by first | (exfalso; omega) | (rw [beL_s]; first | (rw [if_pos (by omega)]; exact bestM_9 _ _ _ _) | (rw [if_neg (by omega)]; done) | rw [if_neg (by omega)]))) ?_
                refine z_istore C dX7_bestError_108 (by decide) rfl ?_
                refine z_iinc C dX7_bestError_110 rfl (by decide) rfl ?_
                rw [show (i : Int) - 99 + 1 = ((i + 1 : Nat) : Int) - 99 by omega]
                refine z_goto C (tgt := 45) dX7_bestError_113 (by decide) ?_
                exact z_sub [0, 1, 2, 3, 4, 5] rfl rfl (ih (i + 1) (by omega) (by omega))
          · refine z_iconst C dX7_bestError_75 ?_
            refine z_goto C (tgt := 80) dX7_bestError_76 (by decide) ?_
            refine z_istore C dX7_bestError_80 (by decide) rfl ?_
            refine z_iload C dX7_bestError_82 rfl ?_
            refine z_if_eq C (tgt := 92) dX7_bestError_84 (by decide) (by first | omega | exact b2i_r) (fun h84 => ?_) (fun h84 => ?_)
            · refine z_iload_n C dX7_bestError_92 rfl ?_
              refine z_top (y := .int (zI (beB (beW (I (o + 1)) g) (i + 1)))) (congrArg (fun x => Value.int (zI x)) (by first | (exfalso; omega) | (rw [beB_s]; first | rw [if_pos (by omega)] | rw [if_neg (by omega)]))) ?_
              refine z_istore_n C dX7_bestError_93 (by decide) rfl ?_
              refine z_iload C dX7_bestError_94 rfl ?_
              refine z_if_eq C (tgt := 106) dX7_bestError_96 (by decide) (by first | omega | exact b2i_r) (fun h96 => ?_) (fun h96 => ?_)
              · refine z_iload C dX7_bestError_106 rfl ?_
                refine z_top (y := .int (zI (beL (beW (I (o + 1)) g) (i + 1)))) (congrArg (fun x => Value.int (zI x)) (by first | (exfalso; omega) | (rw [beL_s]; first | (rw [if_pos (by omega)]; exact bestM_9 _ _ _ _) | (rw [if_neg (by omega)]; done) | rw [if_neg (by omega)]))) ?_
                refine z_istore C dX7_bestError_108 (by decide) rfl ?_
                refine z_iinc C dX7_bestError_110 rfl (by decide) rfl ?_
                rw [show (i : Int) - 99 + 1 = ((i + 1 : Nat) : Int) - 99 by omega]
                refine z_goto C (tgt := 45) dX7_bestError_113 (by decide) ?_
                exact z_sub [0, 1, 2, 3, 4, 5] rfl rfl (ih (i + 1) (by omega) (by omega))
              · refine z_aload_n C dX7_bestError_99 rfl ?_
                refine z_gI C (ci := 7) (k := 9) rfl (by decide) rfl (by decide) wl_7 wq_19_1 rfl dX7_bestError_100 (by assumption) ?_
                refine z_goto C (tgt := 108) dX7_bestError_103 (by decide) ?_
                refine z_top (y := .int (zI (beL (beW (I (o + 1)) g) (i + 1)))) (congrArg (fun x => Value.int (zI x)) (by first | (exfalso; omega) | (rw [beL_s]; first | (rw [if_pos (by omega)]; exact bestM_9 _ _ _ _) | (rw [if_neg (by omega)]; done) | rw [if_neg (by omega)]))) ?_
                refine z_istore C dX7_bestError_108 (by decide) rfl ?_
                refine z_iinc C dX7_bestError_110 rfl (by decide) rfl ?_
                rw [show (i : Int) - 99 + 1 = ((i + 1 : Nat) : Int) - 99 by omega]
                refine z_goto C (tgt := 45) dX7_bestError_113 (by decide) ?_
                exact z_sub [0, 1, 2, 3, 4, 5] rfl rfl (ih (i + 1) (by omega) (by omega))
            · refine z_iload C dX7_bestError_87 rfl ?_
              refine z_goto C (tgt := 93) dX7_bestError_89 (by decide) ?_
              refine z_top (y := .int (zI (beB (beW (I (o + 1)) g) (i + 1)))) (congrArg (fun x => Value.int (zI x)) (by first | (exfalso; omega) | (rw [beB_s]; first | rw [if_pos (by omega)] | rw [if_neg (by omega)]))) ?_
              refine z_istore_n C dX7_bestError_93 (by decide) rfl ?_
              refine z_iload C dX7_bestError_94 rfl ?_
              refine z_if_eq C (tgt := 106) dX7_bestError_96 (by decide) (by first | omega | exact b2i_r) (fun h96 => ?_) (fun h96 => ?_)
              · refine z_iload C dX7_bestError_106 rfl ?_
                refine z_top (y := .int (zI (beL (beW (I (o + 1)) g) (i + 1)))) (congrArg (fun x => Value.int (zI x)) (by first | (exfalso; omega) | (rw [beL_s]; first | (rw [if_pos (by omega)]; exact bestM_9 _ _ _ _) | (rw [if_neg (by omega)]; done) | rw [if_neg (by omega)]))) ?_
                refine z_istore C dX7_bestError_108 (by decide) rfl ?_
                refine z_iinc C dX7_bestError_110 rfl (by decide) rfl ?_
                rw [show (i : Int) - 99 + 1 = ((i + 1 : Nat) : Int) - 99 by omega]
                refine z_goto C (tgt := 45) dX7_bestError_113 (by decide) ?_
                exact z_sub [0, 1, 2, 3, 4, 5] rfl rfl (ih (i + 1) (by omega) (by omega))
              · refine z_aload_n C dX7_bestError_99 rfl ?_
                refine z_gI C (ci := 7) (k := 9) rfl (by decide) rfl (by decide) wl_7 wq_19_1 rfl dX7_bestError_100 (by assumption) ?_
                refine z_goto C (tgt := 108) dX7_bestError_103 (by decide) ?_
                refine z_top (y := .int (zI (beL (beW (I (o + 1)) g) (i + 1)))) (congrArg (fun x => Value.int (zI x)) (by first | (exfalso; omega) | (rw [beL_s]; first | (rw [if_pos (by omega)]; exact bestM_9 _ _ _ _) | (rw [if_neg (by omega)]; done) | rw [if_neg (by omega)]))) ?_
                refine z_istore C dX7_bestError_108 (by decide) rfl ?_
                refine z_iinc C dX7_bestError_110 rfl (by decide) rfl ?_
                rw [show (i : Int) - 99 + 1 = ((i + 1 : Nat) : Int) - 99 by omega]
                refine z_goto C (tgt := 45) dX7_bestError_113 (by decide) ?_
                exact z_sub [0, 1, 2, 3, 4, 5] rfl rfl (ih (i + 1) (by omega) (by omega))
  refine z_aload_n C dX7_bestError_0 rfl ?_
  refine z_iload_n C dX7_bestError_1 rfl ?_
  refine z_callVd C (ci := 7) rfl (by decide) (by first | assumption | exact hM.1) (mX7_isGauge l G hM hO hgg) (cwV 1 C.2.2.2.2.1 gv7_143 rfl rfl rfl hd_X7_isGauge ⟨Nat.le_of_ble_eq_true rfl, Nat.le_of_ble_eq_true rfl⟩) rfl rfl (Nat.le_of_ble_eq_true rfl) dX7_bestError_2 ⟨Nat.zero_le _, Nat.zero_le _⟩ ?_
  refine z_if_ne C (tgt := 10) dX7_bestError_5 (by decide) (by first | omega | exact b2i_r) (fun h5 => ?_) (fun h5 => ?_)
  · have hb1 := b2i_1.mp h5
    refine z_iload_n C dX7_bestError_10 rfl ?_
    refine z_iconst C dX7_bestError_11 ?_
    refine z_iconst C dX7_bestError_12 ?_
    refine z_callSd C (mX7_within l G (by omega) (by omega) (by omega)) (va_cwS 3 C.2.2.2.2.1 gv7_39 rfl rfl rfl hs_X7_within ⟨Nat.le_of_ble_eq_true rfl, Nat.le_of_ble_eq_true rfl⟩) rfl rfl (Nat.le_of_ble_eq_true rfl) dX7_bestError_13 ⟨Nat.zero_le _, Nat.zero_le _⟩ ?_
    refine z_if_ne C (tgt := 22) dX7_bestError_16 (by decide) (by first | omega | exact b2i_r) (fun h16 => ?_) (fun h16 => ?_)
    · have hb2 := b2i_1.mp h16
      refine z_aload_n C dX7_bestError_22 rfl ?_
      refine z_gR C (ci := 7) (k := 0) rfl (by decide) rfl (by decide) wl_7 wq_4_3 (by decide) dX7_bestError_23 (by assumption) (by assumption) ?_
      refine z_iconst C dX7_bestError_26 ?_
      refine z_ialdk C (3) dX7_bestError_27 (by assumption) (by first | rfl | omega) (by omega) (by omega) ?_
      refine z_if_ne C (tgt := 34) dX7_bestError_28 (by decide) (by first | omega | exact b2i_r) (fun h28 => ?_) (fun h28 => ?_)
      · refine z_bipush C dX7_bestError_34 (by decide) ?_
        refine z_istore_n C dX7_bestError_36 (by decide) rfl ?_
        refine z_bipush C dX7_bestError_37 (by decide) ?_
        refine z_istore C dX7_bestError_39 (by decide) rfl ?_
        refine z_bipush C dX7_bestError_41 (by decide) ?_
        refine z_istore C dX7_bestError_43 (by decide) rfl ?_
        obtain ⟨n9, hn9⟩ := Int.eq_ofNat_of_zero_le (show 0 ≤ gg by omega)
        refine z_conv (lv' := [(0, .ref o), (1, .int (zI (n9 : Int))), (2, .int (zI wh)), (3, .int (zI (-99))), (4, .int (zI (-6))), (5, .int (zI (-99)))]) rfl rfl (by rw [hn9]; rfl) rfl ?_
        exact hloop n9 (by omega) (by omega) hn9 hb2 200 0 (by omega) (by omega)
      · refine z_bipush C dX7_bestError_31 (by decide) ?_
        exact z_iret2 C hQ rfl dX7_bestError_33 ⟨zr (by first | exact (if_neg n1).symm | exact ((if_pos hb1).trans (if_neg n2)).symm | exact ((if_pos hb1).trans ((if_pos hb2).trans (if_pos h28))).symm), rfl, rfl, rfl, by first | exact (if_neg (fun z => n1 z.1)).symm | exact (if_neg (fun z => n2 z.2.1)).symm | exact (if_neg (fun z => z.2.2 h28)).symm, rfl⟩
    · have n2 := b2i_0.mp h16
      refine z_bipush C dX7_bestError_19 (by decide) ?_
      exact z_iret2 C hQ rfl dX7_bestError_21 ⟨zr (by first | exact (if_neg n1).symm | exact ((if_pos hb1).trans (if_neg n2)).symm | exact ((if_pos hb1).trans ((if_pos hb2).trans (if_pos h28))).symm), rfl, rfl, rfl, by first | exact (if_neg (fun z => n1 z.1)).symm | exact (if_neg (fun z => n2 z.2.1)).symm | exact (if_neg (fun z => z.2.2 h28)).symm, rfl⟩
  · have n1 := b2i_0.mp h5
    refine z_iconst C dX7_bestError_8 ?_
    exact z_iret2 C hQ rfl dX7_bestError_9 ⟨zr (by first | exact (if_neg n1).symm | exact ((if_pos hb1).trans (if_neg n2)).symm | exact ((if_pos hb1).trans ((if_pos hb2).trans (if_pos h28))).symm), rfl, rfl, rfl, by first | exact (if_neg (fun z => n1 z.1)).symm | exact (if_neg (fun z => n2 z.2.1)).symm | exact (if_neg (fun z => z.2.2 h28)).symm, rfl⟩

set_option maxHeartbeats 4000000 in
set_option maxRecDepth 100000 in
theorem mX7_bits (l : Launch) (G : GG) {z : Nat} {K N : Nat → Nat} {I : MI} {R : MR} {v : Int} (hv : 0 ≤ v ∧ v < 2147483648) : Cod l G yX7_bits (Cond.code yX7_bits cX7_bits 3 (some .int) :: wsL_law) ⟨0, 0, 0, 0⟩ [.int (zI v)] z K N I R (some (.int (zI (popS v 14)))) I R := by
  refine Con.of (own := RX7) (cc := cX7_bits) (maxL := 3) (ret := (some .int)) (by decide +kernel) rfl rfl (Nat.le_of_ble_eq_true rfl) (by decide) rfl ?_
  intro p e9 s mt args below meth c Q hin hQ C
  have hloop : ∀ (n : Nat) (k : Nat), k ≤ 14 → 14 - k < n → Zq p l e9 ⟨0, 0, 0, 0⟩ s mt args below meth c G 3 Q 0 0 z K N I R 4 [(0, .int (zI v)), (1, .int (zI (popS v k))), (2, .int (zI (k : Int)))] [] := by
    intro n
    induction n with
    | zero => intro k h1 h2; exact absurd h2 (by omega)
    | succ n ih =>
      intro k h1 h2
      refine z_iload_n C dX7_bits_4 rfl ?_
      refine z_bipush C dX7_bits_5 (by decide) ?_
      refine z_icmp_ge C (tgt := 24) dX7_bits_7 (by decide) (by first | omega | exact b2i_r) (by first | omega | exact b2i_r) (fun h7 => ?_) (fun h7 => ?_)
      · refine z_iload_n C dX7_bits_24 rfl ?_
        exact z_iret2 C hQ rfl dX7_bits_25 ⟨zr (by rw [show k = 14 by omega]), rfl, rfl, rfl, rfl, rfl⟩
      · refine z_iload_n C dX7_bits_10 rfl ?_
        refine z_iload_n C dX7_bits_11 rfl ?_
        refine z_iload_n C dX7_bits_12 rfl ?_
        refine z_ishr C dX7_bits_13 (zI_shr (by omega) (by omega)) ?_
        refine z_iconst C dX7_bits_14 ?_
        refine z_iand C dX7_bits_15 (zI_and1 _) ?_
        refine z_iadd C dX7_bits_16 ?_
        refine z_istore_n C dX7_bits_17 (by decide) rfl ?_
        refine z_iinc C dX7_bits_18 rfl (by decide) rfl ?_
        refine z_goto C (tgt := 4) dX7_bits_21 (by decide) ?_
        exact ih (k + 1) (by omega) (by omega)
  refine z_iconst C dX7_bits_0 ?_
  refine z_istore_n C dX7_bits_1 (by decide) rfl ?_
  refine z_iconst C dX7_bits_2 ?_
  refine z_istore_n C dX7_bits_3 (by decide) rfl ?_
  exact hloop 15 0 (by omega) (by omega)

set_option maxHeartbeats 4000000 in
set_option maxRecDepth 100000 in
theorem mX7_nearest (l : Launch) (G : GG) {z : Nat} {K N : Nat → Nat} {I : MI} {R : MR} {o : Nat} (hM : ShM G z K N R o) (hO : Ok (I (o + 1))) {pr wh : Int} (hpr : -2147483648 ≤ pr ∧ pr < 2147483648) (hwh : -2147483648 ≤ wh ∧ wh < 2147483648) : Cod l G yX7_nearest (Cond.code yX7_nearest cX7_nearest 7 (some .int) :: wsL_law) ⟨4, 0, 0, 86⟩ [.ref o, .int (zI pr), .int (zI wh)] z K N I R (some (.int (zI (if 0 ≤ pr ∧ (0 ≤ wh ∧ wh ≤ 1) then (if wh = 0 then (nrA (I (o + 1)) pr (2 ^ (I (o + 1) 3).toNat - 1 : Int).toNat).1 else prsA (I (o + 1)) (nrA (I (o + 1)) pr (2 ^ (I (o + 1) 3).toNat - 1 : Int).toNat).1) else -2)))) I R := by
  refine Con.of (own := RX7) (cc := cX7_nearest) (maxL := 7) (ret := (some .int)) (by decide +kernel) rfl rfl (Nat.le_of_ble_eq_true rfl) (by decide) rfl ?_
  intro p e9 s mt args below meth c Q hin hQ C
  obtain ⟨ho, ⟨r0, r1, r3, r4, r5, r7, r8⟩, ⟨k1, k2, k3, k4, k5, k6, k7⟩, n1, n2, n3, n4, n5, n6, n7⟩ := id hM
  have h3 := hO.2.2.2.1
  have hp14 : (2 : Int) ^ (I (o + 1) 3).toNat ≤ 16384 := pow_le (b := 14) (by omega)
  have hp0 := pow_pos2 (I (o + 1) 3).toNat
  have hpa0 := prsA_rng hO 0
  have hloop : 0 ≤ pr → 0 ≤ wh ∧ wh ≤ 1 → ∀ (n : Nat) (k : Nat), ((k + 1 : Nat) : Int) ≤ 2 ^ (I (o + 1) 3).toNat → 2 ^ (I (o + 1) 3).toNat - ((k + 1 : Nat) : Int) < n → Zq p l e9 ⟨4, 0, 0, 86⟩ s mt args below meth c G 7 Q 0 0 z K N I R 33 [(0, .ref o), (1, .int (zI pr)), (2, .int (zI wh)), (3, .int (zI (nrA (I (o + 1)) pr k).1)), (4, .int (zI (nrA (I (o + 1)) pr k).2)), (5, .int (zI ((k + 1 : Nat) : Int)))] [] := by
    intro hpr0 hwh9 n
    induction n with
    | zero => intro k h1 h2; exact absurd h2 (by omega)
    | succ n ih =>
      intro k h1 h2
      have hn := nrA_rng hO ⟨hpr0, hpr.2⟩ k
      have hps := popS_rng ((k + 1 : Nat) : Int) 14
      have hps2 := popS_rng (nrA (I (o + 1)) pr k).1 14
      have hpa := prsA_rng hO ((k + 1 : Nat) : Int)
      refine z_iload C dX7_nearest_33 rfl ?_
      refine z_iconst C dX7_nearest_35 ?_
      refine z_aload_n C dX7_nearest_36 rfl ?_
      refine z_gR C (ci := 7) (k := 0) rfl (by decide) rfl (by decide) wl_7 wq_4_3 (by decide) dX7_nearest_37 (by assumption) (by assumption) ?_
      refine z_iconst C dX7_nearest_40 ?_
      refine z_ialdk C (3) dX7_nearest_41 (by assumption) (by first | rfl | omega) (by omega) (by omega) ?_
      refine z_ishl C dX7_nearest_42 (zI_shl (by omega)) ?_
      refine z_icmp_ge C (tgt := 98) dX7_nearest_43 (by decide) (by first | omega | exact b2i_r) (by first | omega | exact b2i_r) (fun h43 => ?_) (fun h43 => ?_)
      · have hk9 : (2 ^ (I (o + 1) 3).toNat - 1 : Int).toNat = k := by omega
        refine z_iload_n C dX7_nearest_98 rfl ?_
        refine z_if_ne C (tgt := 106) dX7_nearest_99 (by decide) (by first | omega | exact b2i_r) (fun h99 => ?_) (fun h99 => ?_)
        · refine z_aload_n C dX7_nearest_106 rfl ?_
          refine z_iload_n C dX7_nearest_107 rfl ?_
          refine z_callVd C (ci := 7) rfl (by decide) (by first | assumption | exact hM.1) (mX7_pressureOf l G hM hO (by omega)) (cwV 1 C.2.2.2.2.1 gv7_67 rfl rfl rfl hd_X7_pressureOf ⟨Nat.le_of_ble_eq_true rfl, Nat.le_of_ble_eq_true rfl⟩) rfl rfl (Nat.le_of_ble_eq_true rfl) dX7_nearest_108 ⟨Nat.zero_le _, Nat.zero_le _⟩ ?_
          exact z_iret2 C hQ rfl dX7_nearest_111 ⟨zr (by rw [if_pos ⟨hpr0, hwh9⟩, hk9]; first | (rw [if_pos (by omega)]; done) | (rw [if_neg (by omega)]; done)), rfl, rfl, rfl, rfl, rfl⟩
        · refine z_iload_n C dX7_nearest_102 rfl ?_
          refine z_goto C (tgt := 111) dX7_nearest_103 (by decide) ?_
          exact z_iret2 C hQ rfl dX7_nearest_111 ⟨zr (by rw [if_pos ⟨hpr0, hwh9⟩, hk9]; first | (rw [if_pos (by omega)]; done) | (rw [if_neg (by omega)]; done)), rfl, rfl, rfl, rfl, rfl⟩
      · refine z_aload_n C dX7_nearest_46 rfl ?_
        refine z_iload C dX7_nearest_47 rfl ?_
        refine z_callVd C (ci := 7) rfl (by decide) (by first | assumption | exact hM.1) (mX7_pressureOf l G hM hO (by omega)) (cwV 1 C.2.2.2.2.1 gv7_67 rfl rfl rfl hd_X7_pressureOf ⟨Nat.le_of_ble_eq_true rfl, Nat.le_of_ble_eq_true rfl⟩) rfl rfl (Nat.le_of_ble_eq_true rfl) dX7_nearest_49 ⟨Nat.zero_le _, Nat.zero_le _⟩ ?_
        refine z_iload_n C dX7_nearest_52 rfl ?_
        refine z_isub C dX7_nearest_53 ?_
        refine z_callSd C (mX7_size l G (by omega)) (va_cwS 1 C.2.2.2.2.1 gv7_58 rfl rfl rfl hs_X7_size ⟨Nat.le_of_ble_eq_true rfl, Nat.le_of_ble_eq_true rfl⟩) rfl rfl (Nat.le_of_ble_eq_true rfl) dX7_nearest_54 ⟨Nat.zero_le _, Nat.zero_le _⟩ ?_
        have hab : 0 ≤ absz (prsA (I (o + 1)) ((k + 1 : Nat) : Int) - pr) ∧ absz (prsA (I (o + 1)) ((k + 1 : Nat) : Int) - pr) < 2147483648 := by unfold absz; split <;> omega
        refine z_istore C dX7_nearest_57 (by decide) rfl ?_
        refine z_iload C dX7_nearest_59 rfl ?_
        refine z_iload C dX7_nearest_61 rfl ?_
        refine z_icmp_lt C (tgt := 85) dX7_nearest_63 (by decide) (by first | omega | exact b2i_r) (by first | omega | exact b2i_r) (fun h63 => ?_) (fun h63 => ?_)
        · refine z_iload C dX7_nearest_85 rfl ?_
          refine z_istore_n C dX7_nearest_87 (by decide) rfl ?_
          refine z_iload C dX7_nearest_88 rfl ?_
          refine z_istore C dX7_nearest_90 (by decide) rfl ?_
          refine z_iinc C dX7_nearest_92 rfl (by decide) rfl ?_
          refine z_goto C (tgt := 33) dX7_nearest_95 (by decide) ?_
          have h9 := ih (k + 1) (by omega) (by omega)
          first
          | (have e9 : nrA (I (o + 1)) pr (k + 1) = (((k + 1 : Nat) : Int), absz (prsA (I (o + 1)) ((k + 1 : Nat) : Int) - pr)) := by rw [nrA_s, if_pos (by omega)]
             rw [e9] at h9
             exact z_sub [0, 1, 2, 3, 4, 5] rfl rfl h9)
          | (have e9 : nrA (I (o + 1)) pr (k + 1) = nrA (I (o + 1)) pr k := by rw [nrA_s, if_neg (by omega)]
             rw [e9] at h9
             exact z_sub [0, 1, 2, 3, 4, 5] rfl rfl h9)
        · refine z_iload C dX7_nearest_66 rfl ?_
          refine z_iload C dX7_nearest_68 rfl ?_
          refine z_icmp_ne C (tgt := 92) dX7_nearest_70 (by decide) (by first | omega | exact b2i_r) (by first | omega | exact b2i_r) (fun h70 => ?_) (fun h70 => ?_)
          · refine z_iinc C dX7_nearest_92 rfl (by decide) rfl ?_
            refine z_goto C (tgt := 33) dX7_nearest_95 (by decide) ?_
            have h9 := ih (k + 1) (by omega) (by omega)
            first
            | (have e9 : nrA (I (o + 1)) pr (k + 1) = (((k + 1 : Nat) : Int), absz (prsA (I (o + 1)) ((k + 1 : Nat) : Int) - pr)) := by rw [nrA_s, if_pos (by omega)]
               rw [e9] at h9
               exact z_sub [0, 1, 2, 3, 4, 5] rfl rfl h9)
            | (have e9 : nrA (I (o + 1)) pr (k + 1) = nrA (I (o + 1)) pr k := by rw [nrA_s, if_neg (by omega)]
               rw [e9] at h9
               exact z_sub [0, 1, 2, 3, 4, 5] rfl rfl h9)
          · refine z_iload C dX7_nearest_73 rfl ?_
            refine z_callSd C (mX7_bits l G (by omega)) (va_cwS 1 C.2.2.2.2.1 gv7_166 rfl rfl rfl hs_X7_bits ⟨Nat.le_of_ble_eq_true rfl, Nat.le_of_ble_eq_true rfl⟩) rfl rfl (Nat.le_of_ble_eq_true rfl) dX7_nearest_75 ⟨Nat.zero_le _, Nat.zero_le _⟩ ?_
            refine z_iload_n C dX7_nearest_78 rfl ?_
            refine z_callSd C (mX7_bits l G (by omega)) (va_cwS 1 C.2.2.2.2.1 gv7_166 rfl rfl rfl hs_X7_bits ⟨Nat.le_of_ble_eq_true rfl, Nat.le_of_ble_eq_true rfl⟩) rfl rfl (Nat.le_of_ble_eq_true rfl) dX7_nearest_79 ⟨Nat.zero_le _, Nat.zero_le _⟩ ?_
            refine z_icmp_ge C (tgt := 92) dX7_nearest_82 (by decide) (by first | omega | exact b2i_r) (by first | omega | exact b2i_r) (fun h82 => ?_) (fun h82 => ?_)
            · refine z_iinc C dX7_nearest_92 rfl (by decide) rfl ?_
              refine z_goto C (tgt := 33) dX7_nearest_95 (by decide) ?_
              have h9 := ih (k + 1) (by omega) (by omega)
              first
              | (have e9 : nrA (I (o + 1)) pr (k + 1) = (((k + 1 : Nat) : Int), absz (prsA (I (o + 1)) ((k + 1 : Nat) : Int) - pr)) := by rw [nrA_s, if_pos (by omega)]
                 rw [e9] at h9
                 exact z_sub [0, 1, 2, 3, 4, 5] rfl rfl h9)
              | (have e9 : nrA (I (o + 1)) pr (k + 1) = nrA (I (o + 1)) pr k := by rw [nrA_s, if_neg (by omega)]
                 rw [e9] at h9
                 exact z_sub [0, 1, 2, 3, 4, 5] rfl rfl h9)
            · refine z_iload C dX7_nearest_85 rfl ?_
              refine z_istore_n C dX7_nearest_87 (by decide) rfl ?_
              refine z_iload C dX7_nearest_88 rfl ?_
              refine z_istore C dX7_nearest_90 (by decide) rfl ?_
              refine z_iinc C dX7_nearest_92 rfl (by decide) rfl ?_
              refine z_goto C (tgt := 33) dX7_nearest_95 (by decide) ?_
              have h9 := ih (k + 1) (by omega) (by omega)
              first
              | (have e9 : nrA (I (o + 1)) pr (k + 1) = (((k + 1 : Nat) : Int), absz (prsA (I (o + 1)) ((k + 1 : Nat) : Int) - pr)) := by rw [nrA_s, if_pos (by omega)]
                 rw [e9] at h9
                 exact z_sub [0, 1, 2, 3, 4, 5] rfl rfl h9)
              | (have e9 : nrA (I (o + 1)) pr (k + 1) = nrA (I (o + 1)) pr k := by rw [nrA_s, if_neg (by omega)]
                 rw [e9] at h9
                 exact z_sub [0, 1, 2, 3, 4, 5] rfl rfl h9)
  refine z_iload_n C dX7_nearest_0 rfl ?_
  refine z_if_lt C (tgt := 13) dX7_nearest_1 (by decide) (by first | omega | exact b2i_r) (fun h1 => ?_) (fun h1 => ?_)
  · refine z_bipush C dX7_nearest_13 (by decide) ?_
    exact z_iret2 C hQ rfl dX7_nearest_15 ⟨zr (by first | exact (if_neg (fun z => b2i_0.mp h10 z.2)).symm | rw [if_neg (by omega)]), rfl, rfl, rfl, rfl, rfl⟩
  · refine z_iload_n C dX7_nearest_4 rfl ?_
    refine z_iconst C dX7_nearest_5 ?_
    refine z_iconst C dX7_nearest_6 ?_
    refine z_callSd C (mX7_within l G (by omega) (by omega) (by omega)) (va_cwS 3 C.2.2.2.2.1 gv7_39 rfl rfl rfl hs_X7_within ⟨Nat.le_of_ble_eq_true rfl, Nat.le_of_ble_eq_true rfl⟩) rfl rfl (Nat.le_of_ble_eq_true rfl) dX7_nearest_7 ⟨Nat.zero_le _, Nat.zero_le _⟩ ?_
    refine z_if_ne C (tgt := 16) dX7_nearest_10 (by decide) (by first | omega | exact b2i_r) (fun h10 => ?_) (fun h10 => ?_)
    · have hb := b2i_1.mp h10
      refine z_iconst C dX7_nearest_16 ?_
      refine z_istore_n C dX7_nearest_17 (by decide) rfl ?_
      refine z_aload_n C dX7_nearest_18 rfl ?_
      refine z_iconst C dX7_nearest_19 ?_
      refine z_callVd C (ci := 7) rfl (by decide) (by first | assumption | exact hM.1) (mX7_pressureOf l G hM hO (by omega)) (cwV 1 C.2.2.2.2.1 gv7_67 rfl rfl rfl hd_X7_pressureOf ⟨Nat.le_of_ble_eq_true rfl, Nat.le_of_ble_eq_true rfl⟩) rfl rfl (Nat.le_of_ble_eq_true rfl) dX7_nearest_20 ⟨Nat.zero_le _, Nat.zero_le _⟩ ?_
      refine z_iload_n C dX7_nearest_23 rfl ?_
      refine z_isub C dX7_nearest_24 ?_
      refine z_callSd C (mX7_size l G (by omega)) (va_cwS 1 C.2.2.2.2.1 gv7_58 rfl rfl rfl hs_X7_size ⟨Nat.le_of_ble_eq_true rfl, Nat.le_of_ble_eq_true rfl⟩) rfl rfl (Nat.le_of_ble_eq_true rfl) dX7_nearest_25 ⟨Nat.zero_le _, Nat.zero_le _⟩ ?_
      refine z_istore C dX7_nearest_28 (by decide) rfl ?_
      refine z_iconst C dX7_nearest_30 ?_
      refine z_istore C dX7_nearest_31 (by decide) rfl ?_
      exact hloop (by omega) hb 16385 0 (by omega) (by omega)
    · refine z_bipush C dX7_nearest_13 (by decide) ?_
      exact z_iret2 C hQ rfl dX7_nearest_15 ⟨zr (by first | exact (if_neg (fun z => b2i_0.mp h10 z.2)).symm | rw [if_neg (by omega)]), rfl, rfl, rfl, rfl, rfl⟩

