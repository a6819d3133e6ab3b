theorem va_upE {α : Type} {f : Nat → α} {a : Nat} {v : α} (h : f a = v) : va_up f a v = f := by subst h; exact va_upS f a
def gTst (f : Nat → Int) (g : Nat) (er : Int) : Int := grt (tstW f er (f (21 + 36 * g)) (f (22 + 36 * g))) (2 * (f 3).toNat)
def wTst (f : Nat → Int) (g : Nat) (er : Int) : Int := wst (tstW f er (f (21 + 36 * g)) (f (22 + 36 * g))) (2 * (f 3).toNat)
def rTst (f : Nat → Int) (g : Nat) (er : Int) (k : Nat) : Int := rdg (tpr f) er (f (21 + 36 * g)) (f (22 + 36 * g)) k
def certB (f : Nat → Int) (g : Nat) : Nat → Int := st1 (st1 (st1 (st1 f (24 + 36 * g) 1) (25 + 36 * g) (gTst f g (f (20 + 36 * g)))) (26 + 36 * g) (f 0)) (27 + 36 * g) (f 1)
def certK (f : Nat → Int) (g k : Nat) : Nat → Int := fun j => if 28 + 36 * g ≤ j ∧ j < 28 + 36 * g + k then (if ((j - (28 + 36 * g) : Nat) : Int) < 2 * f 3 then rTst f g (f (20 + 36 * g)) (j - (28 + 36 * g)) else 0) else certB f g j
def certG (f : Nat → Int) (g : Nat) : Nat → Int := if gTst f g (f (20 + 36 * g)) ≤ f 2 then certK f g 28 else f
theorem certK_s (f : Nat → Int) (g k : Nat) {v : Int} (hv : v = if (k : Int) < 2 * f 3 then rTst f g (f (20 + 36 * g)) k else 0) : st1 (certK f g k) (28 + 36 * g + k) v = certK f g (k + 1) := by
  funext j
  unfold st1 certK
  by_cases h : j = 28 + 36 * g + k
  · rw [if_pos h, if_pos (show 28 + 36 * g ≤ j ∧ j < 28 + 36 * g + (k + 1) by omega), show j - (28 + 36 * g) = k by omega, hv]
  · rw [if_neg h]
    by_cases h2 : 28 + 36 * g ≤ j ∧ j < 28 + 36 * g + k
    · rw [if_pos h2, if_pos (show 28 + 36 * g ≤ j ∧ j < 28 + 36 * g + (k + 1) by omega)]
    · rw [if_neg h2, if_neg (show ¬ (28 + 36 * g ≤ j ∧ j < 28 + 36 * g + (k + 1)) by omega)]
theorem certK_lo {f : Nat → Int} {g k j : Nat} (h : j < 24 + 36 * g) : certK f g k j = f j := by
  unfold certK certB
  rw [if_neg (by omega), st1_n (by omega), st1_n (by omega), st1_n (by omega), st1_n (by omega)]
theorem Ok.cert {f : Nat → Int} (h : Ok f) (g : Nat) : Ok (certG f g) := by
  unfold certG
  split
  · refine h.cong (fun j hj => certK_lo (by omega)) fun q hq => ?_
    obtain ⟨d1, d2, d3, d4, d5⟩ := h.2.2.2.2.2.2.2 q hq
    have e : ∀ j : Nat, (j < 24 + 36 * g ∨ 56 + 36 * g ≤ j) → certK f g 28 j = f j := fun j hj => by
      unfold certK certB
      rw [if_neg (by omega), st1_n (by omega), st1_n (by omega), st1_n (by omega), st1_n (by omega)]
    refine ⟨e _ (by omega), e _ (by omega), e _ (by omega), by rw [e _ (by omega)]; exact d4, ?_⟩
    by_cases hg : q = g
    · subst hg
      right
      unfold certK certB
      rw [if_neg (by omega), st1_n (by omega), st1_n (by omega), st1_n (by omega), st1_s]
    · rw [e _ (by omega)]; exact d5
  · exact h
theorem gTst_rng {f : Nat → Int} (h : Ok f) (h3 : 0 < f 3) {g : Nat} (hg : (g : Int) < f 5) {er : Int} (he : -99 ≤ er ∧ er ≤ 99) : 0 ≤ gTst f g er ∧ gTst f g er ≤ 16000198 := by
  obtain ⟨c1, c2, c3, c4, c5⟩ := h.2.2.2.2.2.2.2 g hg
  unfold gTst
  have hw := fun k (hk : k < 2 * (f 3).toNat) => tstW_rng h he c2 c3 hk
  have h1 := grt_rng (w := tstW f er (f (21 + 36 * g)) (f (22 + 36 * g))) hw (by omega) (2 * (f 3).toNat) (Nat.le_refl _)
  have h2 : ∀ k, 0 < k → k ≤ 2 * (f 3).toNat → 0 ≤ grt (tstW f er (f (21 + 36 * g)) (f (22 + 36 * g))) k := by
    intro k hk hk2
    obtain ⟨q, rfl⟩ : ∃ q, k = q + 1 := ⟨k - 1, by omega⟩
    have := hw q (by omega)
    unfold grt
    split <;> omega
  exact ⟨h2 _ (by omega) (Nat.le_refl _), h1.2⟩
def plcK (F : Nat → Int) (n rg : Nat) : Nat → Int
  | 0 => -6
  | k + 1 => if ordC F n k = rg then (k : Int) else plcK F n rg k
def plcA (f : Nat → Int) (rg : Nat) : Int := plcK (fun j => f (6 + j)) (f 3).toNat rg (f 3).toNat
theorem tstM_t (I : MI) (o : Nat) (er er2 pl sp pl2 sp2 : Int) (k : Nat) : tstM (tstM I o er pl sp k) o er2 pl2 sp2 k = tstM I o er2 pl2 sp2 k := by
  have e1 : tstM I o er pl sp k (o + 1) = I (o + 1) := tstM_r _ _ _ _ _ _ _ (by omega) (by omega) (by omega)
  have r6 : ∀ F n old, rowO F n (rowO F n old) = rowO F n old := fun F n old => funext fun j => by unfold rowO; split <;> rfl
  have r7 : ∀ f old, rowR f er2 pl2 sp2 k (rowR f er pl sp k old) = rowR f er2 pl2 sp2 k old := fun f old => funext fun j => by unfold rowR; split <;> rfl
  funext b j
  by_cases h0 : b = o
  · subst h0
    by_cases h9 : j = 9
    · subst h9; rw [tstM_9, tstM_9, e1]
    · by_cases h10 : j = 10
      · subst h10; rw [tstM_10, tstM_10, e1]
      · rw [tstM_j _ _ _ _ _ _ _ h9 h10, tstM_j _ _ _ _ _ _ _ h9 h10, tstM_j _ _ _ _ _ _ _ h9 h10]
  · by_cases h6 : b = o + 6
    · subst h6; rw [tstM_6, tstM_6, tstM_6, e1, r6]
    · by_cases h7 : b = o + 7
      · subst h7; rw [tstM_7, tstM_7, tstM_7, e1, r7]
      · rw [tstM_r _ _ _ _ _ _ _ h0 h6 h7, tstM_r _ _ _ _ _ _ _ h0 h6 h7, tstM_r _ _ _ _ _ _ _ h0 h6 h7]
def beL (w : Nat → Int) : Nat → Int
  | 0 => -6
  | i + 1 => if beL w i = -6 ∨ w i < beL w i then w i else beL w i
def beB (w : Nat → Int) : Nat → Int
  | 0 => -99
  | i + 1 => if beL w i = -6 ∨ w i < beL w i then (i : Int) - 99 else beB w i
def beW (f : Nat → Int) (g : Nat) : Nat → Int := fun i => gTst f g ((i : Int) - 99)
def bestM (I : MI) (o g i : Nat) : MI := if i = 0 then I else tstM I o ((i : Int) - 100) (I (o + 1) (21 + 36 * g)) (I (o + 1) (22 + 36 * g)) (2 * (I (o + 1) 3).toNat)
def popS (v : Int) : Nat → Int
  | 0 => 0
  | k + 1 => popS v k + v / 2 ^ k % 2
def nrA (f : Nat → Int) (w : Int) : Nat → Int × Int
  | 0 => (0, absz (prsA f 0 - w))
  | k + 1 => if absz (prsA f ((k + 1 : Nat) : Int) - w) < (nrA f w k).2 ∨ (absz (prsA f ((k + 1 : Nat) : Int) - w) = (nrA f w k).2 ∧ popS ((k + 1 : Nat) : Int) 14 < popS (nrA f w k).1 14) then (((k + 1 : Nat) : Int), absz (prsA f ((k + 1 : Nat) : Int) - w)) else nrA f w k
theorem nrA_rng {f : Nat → Int} (h : Ok f) {w : Int} (hw : 0 ≤ w ∧ w < 2147483648) : ∀ k : Nat, (0 ≤ (nrA f w k).1 ∧ (nrA f w k).1 ≤ k) ∧ 0 ≤ (nrA f w k).2 ∧ (nrA f w k).2 < 2147483648
  | 0 => by
    have := prsA_rng h 0
    simp only [nrA, absz]
    split <;> omega
  | k + 1 => by
    have ih := nrA_rng h hw k
    have := prsA_rng h ((k + 1 : Nat) : Int)
    unfold nrA
    split
    · simp only [absz]
      split <;> omega
    · omega
theorem popS_rng (v : Int) : ∀ n : Nat, 0 ≤ popS v n ∧ popS v n ≤ n
  | 0 => by simp [popS]
  | n + 1 => by
    have ih := popS_rng v n
    unfold popS
    omega
set_option maxHeartbeats 4000000 in
set_option maxRecDepth 100000 in
theorem mX7_certifies (l : Launch) (G : GG) {z : Nat} {K N : Nat → Nat} {I : MI} {R : MR} {o : Nat} (hM : ShM G z K N R o) (hO : Ok (I (o + 1))) {g : Nat} (hg : (g : Int) < I (o + 1) 5) (h0 : 0 < I (o + 1) 3) : Cod l G yX7_certifies (Cond.code yX7_certifies cX7_certifies 3 (some .int) :: wsL_law) ⟨5, 0, 0, 115⟩ [.ref o, .int (zI (g : Int))] z K N I R (some (.int (zI (gTst (I (o + 1)) g (I (o + 1) (20 + 36 * g)))))) (va_up (tstM I o (I (o + 1) (20 + 36 * g)) (I (o + 1) (21 + 36 * g)) (I (o + 1) (22 + 36 * g)) (2 * (I (o + 1) 3).toNat)) (o + 1) (certG (I (o + 1)) g)) R := by
  refine Con.of (own := RX7) (cc := cX7_certifies) (maxL := 3) (ret := (some .int)) (by decide +kernel) rfl rfl (Nat.le_of_ble_eq_true rfl) (by decide) rfl ?_
  intro p e9 s mt args below meth c Q hin hQ C
  obtain ⟨ho, ⟨r0, r1, r3, r4, r5, r7, r8⟩, ⟨k1, k2, k3, k4, k5, k6, k7⟩, n1, n2, n3, n4, n5, n6, n7⟩ := id hM
  have h3 := hO.2.2.2.1
  have h5 := hO.2.2.2.2.2.1
  have h2 := hO.2.2.1
  obtain ⟨c1, c2, c3, c4, c5⟩ := hO.2.2.2.2.2.2.2 g hg
  have hgt := gTst_rng hO h0 hg c1
  have hloop : ∀ (n : Nat) (k : Nat), k ≤ 28 → gTst (I (o + 1)) g (I (o + 1) (20 + 36 * g)) ≤ I (o + 1) 2 → 28 - k < n → Zq p l e9 ⟨5, 0, 0, 115⟩ s mt args below meth c G 3 Q 0 0 z K N (va_up (tstM I o (I (o + 1) (20 + 36 * g)) (I (o + 1) (21 + 36 * g)) (I (o + 1) (22 + 36 * g)) (2 * (I (o + 1) 3).toNat)) (o + 1) (certK (I (o + 1)) g k)) R 69 [(0, .ref o), (1, .int (zI (g : Int))), (2, .int (zI (k : Int)))] [] := by
    intro n
    induction n with
    | zero => intro k h1 h0 h2; exact absurd h2 (by omega)
    | succ n ih =>
      intro k h1 h0 h2
      refine z_iload_n C dX7_certifies_69 rfl ?_
      refine z_bipush C dX7_certifies_70 (by decide) ?_
      refine z_icmp_ge C (tgt := 112) dX7_certifies_72 (by decide) (by first | omega | exact b2i_r) (by first | omega | exact b2i_r) (fun h72 => ?_) (fun h72 => ?_)
      · refine z_aload_n C dX7_certifies_112 rfl ?_
        refine z_gI C (ci := 7) (k := 9) rfl (by decide) rfl (by decide) wl_7 wq_19_1 rfl dX7_certifies_113 (by assumption) ?_
        first | rw [va_up_n (by omega), tstM_9] | rw [tstM_9]
        exact z_iret2 C hQ rfl dX7_certifies_116 ⟨rfl, rfl, rfl, rfl, by
      unfold certG
      first
      | (rw [if_pos h0]; rw [show k = 28 by omega]; done)
      | (rw [if_neg (by omega)]; exact (va_upE (tstM_r _ _ _ _ _ _ _ (by omega) (by omega) (by omega))).symm), rfl⟩
      · refine z_aload_n C dX7_certifies_75 rfl ?_
        refine z_iload_n C dX7_certifies_76 rfl ?_
        refine z_bipush C dX7_certifies_77 (by decide) ?_
        refine z_iload_n C dX7_certifies_79 rfl ?_
        refine z_iadd C dX7_certifies_80 ?_
        refine z_iload_n C dX7_certifies_81 rfl ?_
        refine z_iconst C dX7_certifies_82 ?_
        refine z_aload_n C dX7_certifies_83 rfl ?_
        refine z_gR C (ci := 7) (k := 0) rfl (by decide) rfl (by decide) wl_7 wq_4_3 (by decide) dX7_certifies_84 (by assumption) (by assumption) ?_
        refine z_iconst C dX7_certifies_87 ?_
        refine z_ialdk C (3) dX7_certifies_88 (by assumption) (by first | rfl | omega) (by omega) (by omega) ?_
        rw [va_up_s, certK_lo (by omega)]
        refine z_imul C dX7_certifies_89 ?_
        refine z_icmp_ge C (tgt := 102) dX7_certifies_90 (by decide) (by first | omega | exact b2i_r) (by first | omega | exact b2i_r) (fun h90 => ?_) (fun h90 => ?_)
        · refine z_iconst C dX7_certifies_102 ?_
          refine z_callVd C (ci := 7) rfl (by decide) (by first | assumption | exact hM.1) (mX7_setPart l G hM (by omega) (by omega)) (cwV 3 C.2.2.2.2.1 gv7_74 rfl rfl rfl hd_X7_setPart ⟨Nat.le_of_ble_eq_true rfl, Nat.le_of_ble_eq_true rfl⟩) rfl rfl (Nat.le_of_ble_eq_true rfl) dX7_certifies_103 ⟨Nat.zero_le _, Nat.zero_le _⟩ ?_
          rw [show (20 + 36 * (g : Int) + (8 + (k : Int))).toNat = 28 + 36 * g + k by omega, u2_vst, certK_s _ _ _ (by first | exact (if_pos h90).symm | exact (if_neg h90).symm | rw [if_pos (by omega)] | rw [if_neg (by omega)])]
          refine z_iinc C dX7_certifies_106 rfl (by decide) rfl ?_
          refine z_goto C (tgt := 69) dX7_certifies_109 (by decide) ?_
          exact ih (k + 1) (by omega) h0 (by omega)
        · refine z_aload_n C dX7_certifies_93 rfl ?_
          refine z_gR C (ci := 7) (k := 8) rfl (by decide) rfl (by decide) wl_7 wq_4_9 (by decide) dX7_certifies_94 (by assumption) (by assumption) ?_
          refine z_iload_n C dX7_certifies_97 rfl ?_
          refine z_ialdk C (k) dX7_certifies_98 (by assumption) (by first | rfl | omega) (by omega) (by omega) ?_
          rw [va_up_n (by omega), tstM_7, show rowR (I (o + 1)) (I (o + 1) (20 + 36 * g)) (I (o + 1) (21 + 36 * g)) (I (o + 1) (22 + 36 * g)) (2 * (I (o + 1) 3).toNat) (I (o + 7)) k = rTst (I (o + 1)) g (I (o + 1) (20 + 36 * g)) k from if_pos (by omega)]
          refine z_goto C (tgt := 103) dX7_certifies_99 (by decide) ?_
          refine z_callVd C (ci := 7) rfl (by decide) (by first | assumption | exact hM.1) (mX7_setPart l G hM (by omega) (by omega)) (cwV 3 C.2.2.2.2.1 gv7_74 rfl rfl rfl hd_X7_setPart ⟨Nat.le_of_ble_eq_true rfl, Nat.le_of_ble_eq_true rfl⟩) rfl rfl (Nat.le_of_ble_eq_true rfl) dX7_certifies_103 ⟨Nat.zero_le _, Nat.zero_le _⟩ ?_
          rw [show (20 + 36 * (g : Int) + (8 + (k : Int))).toNat = 28 + 36 * g + k by omega, u2_vst, certK_s _ _ _ (by first | exact (if_pos h90).symm | exact (if_neg h90).symm | rw [if_pos (by omega)] | rw [if_neg (by omega)])]
          refine z_iinc C dX7_certifies_106 rfl (by decide) rfl ?_
          refine z_goto C (tgt := 69) dX7_certifies_109 (by decide) ?_
          exact ih (k + 1) (by omega) h0 (by omega)
  refine z_aload_n C dX7_certifies_0 rfl ?_
  refine z_iload_n C dX7_certifies_1 rfl ?_
  refine z_aload_n C dX7_certifies_2 rfl ?_
  refine z_iload_n C dX7_certifies_3 rfl ?_
  refine z_iconst C dX7_certifies_4 ?_
  refine z_callVd C (ci := 7) rfl (by decide) (by first | assumption | exact hM.1) (mX7_part l G hM (by omega) (by omega)) (cwV 2 C.2.2.2.2.1 gv7_64 rfl rfl rfl hd_X7_part ⟨Nat.le_of_ble_eq_true rfl, Nat.le_of_ble_eq_true rfl⟩) rfl rfl (Nat.le_of_ble_eq_true rfl) dX7_certifies_5 ⟨Nat.zero_le _, Nat.zero_le _⟩ ?_
  rw [show (20 + 36 * (g : Int) + 0).toNat = 20 + 36 * g by omega]
  refine z_callVd C (ci := 7) rfl (by decide) (by first | assumption | exact hM.1) (mX7_tests l G hM hO hg c1) (cwV 2 C.2.2.2.2.1 gv7_146 rfl rfl rfl hd_X7_tests ⟨Nat.le_of_ble_eq_true rfl, Nat.le_of_ble_eq_true rfl⟩) rfl rfl (Nat.le_of_ble_eq_true rfl) dX7_certifies_8 ⟨Nat.zero_le _, Nat.zero_le _⟩ ?_
  refine z_aload_n C dX7_certifies_11 rfl ?_
  refine z_gI C (ci := 7) (k := 9) rfl (by decide) rfl (by decide) wl_7 wq_19_1 rfl dX7_certifies_12 (by assumption) ?_
  rw [tstM_9, show grt (tstW (I (o + 1)) (I (o + 1) (20 + 36 * g)) (I (o + 1) (21 + 36 * g)) (I (o + 1) (22 + 36 * g))) (2 * (I (o + 1) 3).toNat) = gTst (I (o + 1)) g (I (o + 1) (20 + 36 * g)) from rfl]
  refine z_aload_n C dX7_certifies_15 rfl ?_
  refine z_gR C (ci := 7) (k := 0) rfl (by decide) rfl (by decide) wl_7 wq_4_3 (by decide) dX7_certifies_16 (by assumption) (by assumption) ?_
  refine z_iconst C dX7_certifies_19 ?_
  refine z_ialdk C (2) dX7_certifies_20 (by assumption) (by first | rfl | omega) (by omega) (by omega) ?_
  rw [tstM_r _ _ _ _ _ _ _ (by omega) (by omega) (by omega)]
  refine z_icmp_gt C (tgt := 112) dX7_certifies_21 (by decide) (by first | omega | exact b2i_r) (by first | omega | exact b2i_r) (fun h21 => ?_) (fun h21 => ?_)
  · refine z_aload_n C dX7_certifies_112 rfl ?_
    refine z_gI C (ci := 7) (k := 9) rfl (by decide) rfl (by decide) wl_7 wq_19_1 rfl dX7_certifies_113 (by assumption) ?_
    first | rw [va_up_n (by omega), tstM_9] | rw [tstM_9]
    exact z_iret2 C hQ rfl dX7_certifies_116 ⟨rfl, rfl, rfl, rfl, by
      unfold certG
      first
      | (rw [if_pos h0]; rw [show k = 28 by omega]; done)
      | (rw [if_neg (by omega)]; exact (va_upE (tstM_r _ _ _ _ _ _ _ (by omega) (by omega) (by omega))).symm), rfl⟩
  · refine z_aload_n C dX7_certifies_24 rfl ?_
    refine z_iload_n C dX7_certifies_25 rfl ?_
    refine z_iconst C dX7_certifies_26 ?_
    refine z_iconst C dX7_certifies_27 ?_
    refine z_callVd C (ci := 7) rfl (by decide) (by first | assumption | exact hM.1) (mX7_setPart l G hM (by omega) (by omega)) (cwV 3 C.2.2.2.2.1 gv7_74 rfl rfl rfl hd_X7_setPart ⟨Nat.le_of_ble_eq_true rfl, Nat.le_of_ble_eq_true rfl⟩) rfl rfl (Nat.le_of_ble_eq_true rfl) dX7_certifies_28 ⟨Nat.zero_le _, Nat.zero_le _⟩ ?_
    rw [u2_st, show (20 + 36 * (g : Int) + 4).toNat = 24 + 36 * g by omega, tstM_r _ _ _ _ _ _ _ (by omega) (by omega) (by omega)]
    refine z_aload_n C dX7_certifies_31 rfl ?_
    refine z_iload_n C dX7_certifies_32 rfl ?_
    refine z_iconst C dX7_certifies_33 ?_
    refine z_aload_n C dX7_certifies_34 rfl ?_
    refine z_gI C (ci := 7) (k := 9) rfl (by decide) rfl (by decide) wl_7 wq_19_1 rfl dX7_certifies_35 (by assumption) ?_
    rw [va_up_n (by omega), tstM_9]
    refine z_callVd C (ci := 7) rfl (by decide) (by first | assumption | exact hM.1) (mX7_setPart l G hM (by omega) (by omega)) (cwV 3 C.2.2.2.2.1 gv7_74 rfl rfl rfl hd_X7_setPart ⟨Nat.le_of_ble_eq_true rfl, Nat.le_of_ble_eq_true rfl⟩) rfl rfl (Nat.le_of_ble_eq_true rfl) dX7_certifies_38 ⟨Nat.zero_le _, Nat.zero_le _⟩ ?_
    rw [u2_vst, show (20 + 36 * (g : Int) + 5).toNat = 25 + 36 * g by omega]
    refine z_aload_n C dX7_certifies_41 rfl ?_
    refine z_iload_n C dX7_certifies_42 rfl ?_
    refine z_bipush C dX7_certifies_43 (by decide) ?_
    refine z_aload_n C dX7_certifies_45 rfl ?_
    refine z_gR C (ci := 7) (k := 0) rfl (by decide) rfl (by decide) wl_7 wq_4_3 (by decide) dX7_certifies_46 (by assumption) (by assumption) ?_
    refine z_iconst C dX7_certifies_49 ?_
    refine z_ialdk C (0) dX7_certifies_50 (by assumption) (by first | rfl | omega) (by omega) (by omega) ?_
    rw [va_up_s, st1_n (by omega), st1_n (by omega)]
    refine z_callVd C (ci := 7) rfl (by decide) (by first | assumption | exact hM.1) (mX7_setPart l G hM (by omega) (by omega)) (cwV 3 C.2.2.2.2.1 gv7_74 rfl rfl rfl hd_X7_setPart ⟨Nat.le_of_ble_eq_true rfl, Nat.le_of_ble_eq_true rfl⟩) rfl rfl (Nat.le_of_ble_eq_true rfl) dX7_certifies_51 ⟨Nat.zero_le _, Nat.zero_le _⟩ ?_
    rw [u2_vst, show (20 + 36 * (g : Int) + 6).toNat = 26 + 36 * g by omega]
    refine z_aload_n C dX7_certifies_54 rfl ?_
    refine z_iload_n C dX7_certifies_55 rfl ?_
    refine z_bipush C dX7_certifies_56 (by decide) ?_
    refine z_aload_n C dX7_certifies_58 rfl ?_
    refine z_gR C (ci := 7) (k := 0) rfl (by decide) rfl (by decide) wl_7 wq_4_3 (by decide) dX7_certifies_59 (by assumption) (by assumption) ?_
    refine z_iconst C dX7_certifies_62 ?_
    refine z_ialdk C (1) dX7_certifies_63 (by assumption) (by first | rfl | omega) (by omega) (by omega) ?_
    rw [va_up_s, st1_n (by omega), st1_n (by omega), st1_n (by omega)]
    refine z_callVd C (ci := 7) rfl (by decide) (by first | assumption | exact hM.1) (mX7_setPart l G hM (by omega) (by omega)) (cwV 3 C.2.2.2.2.1 gv7_74 rfl rfl rfl hd_X7_setPart ⟨Nat.le_of_ble_eq_true rfl, Nat.le_of_ble_eq_true rfl⟩) rfl rfl (Nat.le_of_ble_eq_true rfl) dX7_certifies_64 ⟨Nat.zero_le _, Nat.zero_le _⟩ ?_
    rw [u2_vst, show (20 + 36 * (g : Int) + 7).toNat = 27 + 36 * g by omega]
    refine z_iconst C dX7_certifies_67 ?_
    refine z_istore_n C dX7_certifies_68 (by decide) rfl ?_
    refine z_mem (I' := va_up (tstM I o (I (o + 1) (20 + 36 * g)) (I (o + 1) (21 + 36 * g)) (I (o + 1) (22 + 36 * g)) (2 * (I (o + 1) 3).toNat)) (o + 1) (certK (I (o + 1)) g 0)) ?_ rfl (hloop 29 0 (by omega) (by omega) (by omega))
    congr 1
    funext j
    exact (if_neg (by omega)).symm

set_option maxHeartbeats 4000000 in
set_option maxRecDepth 100000 in
theorem mX7_certify (l : Launch) (G : GG) {z : Nat} {K N : Nat → Nat} {I : MI} {R : MR} {o : Nat} (hM : ShM G z K N R o) (hO : Ok (I (o + 1))) (hR : 0 ≤ I o 2 ∧ I o 2 ≤ 6) {gg : Int} (hgg : -2147483648 ≤ gg ∧ gg < 2147483648) : Cod l G yX7_certify (Cond.code yX7_certify cX7_certify 3 (some .int) :: wsL_law) ⟨6, 0, 0, 137⟩ [.ref o, .int (zI gg)] z K N I R (some (.int (zI (if 0 ≤ gg ∧ gg ≤ I (o + 1) 5 - 1 then (if I (o + 1) 3 = 0 then -5 else gTst (I (o + 1)) gg.toNat (I (o + 1) (20 + 36 * gg.toNat))) else -1)))) (if (0 ≤ gg ∧ gg ≤ I (o + 1) 5 - 1) ∧ ¬ I (o + 1) 3 = 0 then va_up (tstM (recM I o) o (I (o + 1) (20 + 36 * gg.toNat)) (I (o + 1) (21 + 36 * gg.toNat)) (I (o + 1) (22 + 36 * gg.toNat)) (2 * (I (o + 1) 3).toNat)) (o + 1) (certG (I (o + 1)) gg.toNat) else I) R := by
  refine Con.of (own := RX7) (cc := cX7_certify) (maxL := 3) (ret := (some .int)) (by decide +kernel) rfl rfl (Nat.le_of_ble_eq_true rfl) (by decide) rfl ?_
  intro p e9 s mt args below meth c Q hin hQ C
  have h5 := hO.2.2.2.2.2.1
  have h3 := hO.2.2.2.1
  refine z_aload_n C dX7_certify_0 rfl ?_
  refine z_iload_n C dX7_certify_1 rfl ?_
  refine z_callVd C (ci := 7) rfl (by decide) (by first | assumption | exact hM.1) (mX7_whyNotCertified l G hM hO hgg) (cwV 1 C.2.2.2.2.1 gv7_150 rfl rfl rfl hd_X7_whyNotCertified ⟨Nat.le_of_ble_eq_true rfl, Nat.le_of_ble_eq_true rfl⟩) rfl rfl (Nat.le_of_ble_eq_true rfl) dX7_certify_2 ⟨Nat.zero_le _, Nat.zero_le _⟩ ?_
  obtain ⟨w, hw, hw2⟩ : ∃ w : Int, w = (if 0 ≤ gg ∧ gg ≤ I (o + 1) 5 - 1 then (if I (o + 1) 3 = 0 then -5 else 0) else -1) ∧ ((w = -1 ∧ ¬ (0 ≤ gg ∧ gg ≤ I (o + 1) 5 - 1)) ∨ (w = -5 ∧ (0 ≤ gg ∧ gg ≤ I (o + 1) 5 - 1) ∧ I (o + 1) 3 = 0) ∨ (w = 0 ∧ (0 ≤ gg ∧ gg ≤ I (o + 1) 5 - 1) ∧ ¬ I (o + 1) 3 = 0)) := ⟨_, rfl, (by (repeat' split) <;> omega)⟩
  rw [← hw]
  refine z_istore_n C dX7_certify_5 (by decide) rfl ?_
  refine z_iload_n C dX7_certify_6 rfl ?_
  refine z_if_ge C (tgt := 12) dX7_certify_7 (by decide) (by first | omega | exact b2i_r) (fun h7 => ?_) (fun h7 => ?_)
  · have hb : (0 ≤ gg ∧ gg ≤ I (o + 1) 5 - 1) ∧ ¬ I (o + 1) 3 = 0 := by omega
    obtain ⟨n9, rfl⟩ := Int.eq_ofNat_of_zero_le (show 0 ≤ gg by omega)
    refine z_aload_n C dX7_certify_12 rfl ?_
    refine z_callVd C (ci := 7) rfl (by decide) (by first | assumption | exact hM.1) (mX7_record l G hM hR) (cwV 0 C.2.2.2.2.1 gv7_107 rfl rfl rfl hd_X7_record ⟨Nat.le_of_ble_eq_true rfl, Nat.le_of_ble_eq_true rfl⟩) rfl rfl (Nat.le_of_ble_eq_true rfl) dX7_certify_13 ⟨Nat.zero_le _, Nat.zero_le _⟩ ?_
    refine z_aload_n C dX7_certify_16 rfl ?_
    refine z_iload_n C dX7_certify_17 rfl ?_
    refine z_callVd C (ci := 7) rfl (by decide) (by first | assumption | exact hM.1) (mX7_certifies l G hM (by rw [recM_1]; exact hO) (g := n9) (by rw [recM_1]; omega) (by rw [recM_1]; omega)) (cwV 1 C.2.2.2.2.1 gv7_153 rfl rfl rfl hd_X7_certifies ⟨Nat.le_of_ble_eq_true rfl, Nat.le_of_ble_eq_true rfl⟩) rfl rfl (Nat.le_of_ble_eq_true rfl) dX7_certify_18 ⟨Nat.zero_le _, Nat.zero_le _⟩ ?_
    rw [recM_1]
    exact z_iret2 C hQ rfl dX7_certify_21 ⟨zr (by first | exact ((if_pos hb.1).trans (if_neg hb.2)).symm | ((repeat' split) <;> omega)), rfl, rfl, rfl, by first | exact (if_pos hb).symm | rw [if_neg (by omega)], rfl⟩
  · refine z_iload_n C dX7_certify_10 rfl ?_
    exact z_iret2 C hQ rfl dX7_certify_11 ⟨zr (by first | exact ((if_pos hb.1).trans (if_neg hb.2)).symm | ((repeat' split) <;> omega)), rfl, rfl, rfl, by first | exact (if_pos hb).symm | rw [if_neg (by omega)], rfl⟩

set_option maxHeartbeats 4000000 in
set_option maxRecDepth 100000 in
theorem mX7_placeOf (l : Launch) (G : GG) {z : Nat} {K N : Nat → Nat} {I : MI} {R : MR} {o : Nat} (hM : ShM G z K N R o) (hO : Ok (I (o + 1))) {rg : Nat} (hr : (rg : Int) < I (o + 1) 3) : Cod l G yX7_placeOf (Cond.code yX7_placeOf cX7_placeOf 4 (some .int) :: wsL_law) ⟨1, 0, 0, 22⟩ [.ref o, .int (zI (rg : Int))] z K N I R (some (.int (zI (plcA (I (o + 1)) rg)))) (va_up I (o + 6) (rowO (fun j => I (o + 1) (6 + j)) (I (o + 1) 3).toNat (I (o + 6)))) R := by
  refine Con.of (own := RX7) (cc := cX7_placeOf) (maxL := 4) (ret := (some .int)) (by decide +kernel) rfl rfl (Nat.le_of_ble_eq_true rfl) (by decide) rfl ?_
  intro p e9 s mt args below meth c Q hin hQ C
  obtain ⟨ho, ⟨r0, r1, r3, r4, r5, r7, r8⟩, ⟨k1, k2, k3, k4, k5, k6, k7⟩, n1, n2, n3, n4, n5, n6, n7⟩ := id hM
  have h3 := hO.2.2.2.1
  have hloop : ∀ (n : Nat) (k : Nat), (k : Int) ≤ I (o + 1) 3 → I (o + 1) 3 - k < n → Zq p l e9 ⟨1, 0, 0, 22⟩ s mt args below meth c G 4 Q 0 0 z K N (va_up I (o + 6) (rowO (fun j => I (o + 1) (6 + j)) (I (o + 1) 3).toNat (I (o + 6)))) R 9 [(0, .ref o), (1, .int (zI (rg : Int))), (2, .int (zI (plcK (fun j => I (o + 1) (6 + j)) (I (o + 1) 3).toNat rg k))), (3, .int (zI (k : Int)))] [] := by
    intro n
    induction n with
    | zero => intro k h1 h2; exact absurd h2 (by omega)
    | succ n ih =>
      intro k h1 h2
      refine z_iload_n C dX7_placeOf_9 rfl ?_
      refine z_aload_n C dX7_placeOf_10 rfl ?_
      refine z_gR C (ci := 7) (k := 0) rfl (by decide) rfl (by decide) wl_7 wq_4_3 (by decide) dX7_placeOf_11 (by assumption) (by assumption) ?_
      refine z_iconst C dX7_placeOf_14 ?_
      refine z_ialdk C (3) dX7_placeOf_15 (by assumption) (by first | rfl | omega) (by omega) (by omega) ?_
      rw [va_up_n (by omega)]
      refine z_icmp_ge C (tgt := 41) dX7_placeOf_16 (by decide) (by first | omega | exact b2i_r) (by first | omega | exact b2i_r) (fun h16 => ?_) (fun h16 => ?_)
      · refine z_iload_n C dX7_placeOf_41 rfl ?_
        exact z_iret2 C hQ rfl dX7_placeOf_42 ⟨zr (by unfold plcA; rw [show k = (I (o + 1) 3).toNat by omega]), rfl, rfl, rfl, rfl, rfl⟩
      · refine z_aload_n C dX7_placeOf_19 rfl ?_
        refine z_gR C (ci := 7) (k := 7) rfl (by decide) rfl (by decide) wl_7 wq_4_8 (by decide) dX7_placeOf_20 (by assumption) (by assumption) ?_
        refine z_iload_n C dX7_placeOf_23 rfl ?_
        refine z_ialdk C (k) dX7_placeOf_24 (by assumption) (by first | rfl | omega) (by omega) (by omega) ?_
        rw [va_up_s, show rowO (fun j => I (o + 1) (6 + j)) (I (o + 1) 3).toNat (I (o + 6)) k = (ordC (fun j => I (o + 1) (6 + j)) (I (o + 1) 3).toNat k : Int) from if_pos (by omega)]
        have hlt := ordC_lt (fun j => I (o + 1) (6 + j)) (I (o + 1) 3).toNat k (by omega)
        refine z_iload_n C dX7_placeOf_25 rfl ?_
        refine z_icmp_ne C (tgt := 33) dX7_placeOf_26 (by decide) (by first | omega | exact b2i_r) (by first | omega | exact b2i_r) (fun h26 => ?_) (fun h26 => ?_)
        · refine z_iload_n C dX7_placeOf_33 rfl ?_
          refine z_top (y := .int (zI (plcK (fun j => I (o + 1) (6 + j)) (I (o + 1) 3).toNat rg (k + 1)))) (congrArg (fun x => Value.int (zI x)) (by simp only [plcK]; first | rw [if_pos (by omega)] | rw [if_neg (by omega)])) ?_
          refine z_istore_n C dX7_placeOf_34 (by decide) rfl ?_
          refine z_iinc C dX7_placeOf_35 rfl (by decide) rfl ?_
          refine z_goto C (tgt := 9) dX7_placeOf_38 (by decide) ?_
          exact z_conv rfl rfl (by first | rfl | (show _ = _; simp only [plcK]; first | rw [if_pos (by omega)] | rw [if_neg (by omega)]; rfl)) rfl (ih (k + 1) (by omega) (by omega))
        · refine z_iload_n C dX7_placeOf_29 rfl ?_
          refine z_goto C (tgt := 34) dX7_placeOf_30 (by decide) ?_
          refine z_top (y := .int (zI (plcK (fun j => I (o + 1) (6 + j)) (I (o + 1) 3).toNat rg (k + 1)))) (congrArg (fun x => Value.int (zI x)) (by simp only [plcK]; first | rw [if_pos (by omega)] | rw [if_neg (by omega)])) ?_
          refine z_istore_n C dX7_placeOf_34 (by decide) rfl ?_
          refine z_iinc C dX7_placeOf_35 rfl (by decide) rfl ?_
          refine z_goto C (tgt := 9) dX7_placeOf_38 (by decide) ?_
          exact z_conv rfl rfl (by first | rfl | (show _ = _; simp only [plcK]; first | rw [if_pos (by omega)] | rw [if_neg (by omega)]; rfl)) rfl (ih (k + 1) (by omega) (by omega))
  refine z_aload_n C dX7_placeOf_0 rfl ?_
  refine z_callVd C (ci := 7) rfl (by decide) (by first | assumption | exact hM.1) (mX7_findOrder l G hM hO) (cwV 0 C.2.2.2.2.1 gv7_91 rfl rfl rfl hd_X7_findOrder ⟨Nat.le_of_ble_eq_true rfl, Nat.le_of_ble_eq_true rfl⟩) rfl rfl (Nat.le_of_ble_eq_true rfl) dX7_placeOf_1 ⟨Nat.zero_le _, Nat.zero_le _⟩ ?_
  refine z_bipush C dX7_placeOf_4 (by decide) ?_
  refine z_istore_n C dX7_placeOf_6 (by decide) rfl ?_
  refine z_iconst C dX7_placeOf_7 ?_
  refine z_istore_n C dX7_placeOf_8 (by decide) rfl ?_
  exact hloop 15 0 (by omega) (by omega)

set_option maxHeartbeats 4000000 in
set_option maxRecDepth 100000 in
theorem mX7_ofRing (l : Launch) (G : GG) {z : Nat} {K N : Nat → Nat} {I : MI} {R : MR} {o : Nat} (hM : ShM G z K N R o) (hO : Ok (I (o + 1))) {rg wh : Int} (hrg : -2147483648 ≤ rg ∧ rg < 2147483648) (hwh : -2147483648 ≤ wh ∧ wh < 2147483648) : Cod l G yX7_ofRing (Cond.code yX7_ofRing cX7_ofRing 3 (some .int) :: wsL_law) ⟨2, 0, 0, 45⟩ [.ref o, .int (zI rg), .int (zI wh)] z K N I R (some (.int (zI (if 0 ≤ rg ∧ rg ≤ I (o + 1) 3 - 1 then (if wh = 0 then I (o + 1) (6 + rg.toNat) else if wh = 1 then I (o + 1) 4 / 2 ^ rg.toNat % 2 else if wh = 2 then plcA (I (o + 1)) rg.toNat else -2) else -1)))) (if (0 ≤ rg ∧ rg ≤ I (o + 1) 3 - 1) ∧ wh = 2 then va_up I (o + 6) (rowO (fun j => I (o + 1) (6 + j)) (I (o + 1) 3).toNat (I (o + 6))) else I) R := by
  refine Con.of (own := RX7) (cc := cX7_ofRing) (maxL := 3) (ret := (some .int)) (by decide +kernel) rfl rfl (Nat.le_of_ble_eq_true rfl) (by decide) rfl ?_
  intro p e9 s mt args below meth c Q hin hQ C
  obtain ⟨ho, ⟨r0, r1, r3, r4, r5, r7, r8⟩, ⟨k1, k2, k3, k4, k5, k6, k7⟩, n1, n2, n3, n4, n5, n6, n7⟩ := id hM
  have h3 := hO.2.2.2.1
  refine z_aload_n C dX7_ofRing_0 rfl ?_
  refine z_iload_n C dX7_ofRing_1 rfl ?_
  refine z_callVd C (ci := 7) rfl (by decide) (by first | assumption | exact hM.1) (mX7_isRing l G hM hO hrg) (cwV 1 C.2.2.2.2.1 gv7_119 rfl rfl rfl hd_X7_isRing ⟨Nat.le_of_ble_eq_true rfl, Nat.le_of_ble_eq_true rfl⟩) rfl rfl (Nat.le_of_ble_eq_true rfl) dX7_ofRing_2 ⟨Nat.zero_le _, Nat.zero_le _⟩ ?_
  refine z_if_ne C (tgt := 10) dX7_ofRing_5 (by decide) (by first | omega | exact b2i_r) (fun h5 => ?_) (fun h5 => ?_)
  · have hb := b2i_1.mp h5
    obtain ⟨n9, rfl⟩ := Int.eq_ofNat_of_zero_le (show 0 ≤ rg by omega)
    refine z_iload_n C dX7_ofRing_10 rfl ?_
    by_cases hs11 : wh < 0 ∨ 2 < wh
    · refine z_tout C (tgt := 66) dX7_ofRing_11 (by omega) hs11 (by decide) ?_
      refine z_bipush C dX7_ofRing_66 (by decide) ?_
      exact z_iret2 C hQ rfl dX7_ofRing_68 ⟨zr (by first | exact (if_neg hn).symm | (refine ((if_pos hb).trans ?_).symm; first | (subst hv; rfl) | (subst hv; show I (o + 1) 4 / 2 ^ n9 % 2 = _; omega) | ((repeat' split) <;> omega))), rfl, rfl, rfl, by first | exact (if_pos ⟨hb, hv⟩).symm | rw [if_neg (by omega)], rfl⟩
    · rcases (show wh = 0 ∨ wh = 1 ∨ wh = 2 by omega) with hv | hv | hv
      · refine z_tin C (tgt := 36) 0 dX7_ofRing_11 hv (by decide) (by decide) (by decide) rfl (by decide) ?_
        refine z_aload_n C dX7_ofRing_36 rfl ?_
        refine z_gR C (ci := 7) (k := 0) rfl (by decide) rfl (by decide) wl_7 wq_4_3 (by decide) dX7_ofRing_37 (by assumption) (by assumption) ?_
        refine z_bipush C dX7_ofRing_40 (by decide) ?_
        refine z_iload_n C dX7_ofRing_42 rfl ?_
        refine z_iadd C dX7_ofRing_43 ?_
        refine z_ialdk C (6 + n9) dX7_ofRing_44 (by assumption) (by first | rfl | omega) (by omega) (by omega) ?_
        exact z_iret2 C hQ rfl dX7_ofRing_45 ⟨zr (by first | exact (if_neg hn).symm | (refine ((if_pos hb).trans ?_).symm; first | (subst hv; rfl) | (subst hv; show I (o + 1) 4 / 2 ^ n9 % 2 = _; omega) | ((repeat' split) <;> omega))), rfl, rfl, rfl, by first | exact (if_pos ⟨hb, hv⟩).symm | rw [if_neg (by omega)], rfl⟩
      · refine z_tin C (tgt := 46) 1 dX7_ofRing_11 hv (by decide) (by decide) (by decide) rfl (by decide) ?_
        refine z_aload_n C dX7_ofRing_46 rfl ?_
        refine z_iload_n C dX7_ofRing_47 rfl ?_
        refine z_callVd C (ci := 7) rfl (by decide) (by first | assumption | exact hM.1) (mX7_isStacked l G hM hO (by omega)) (cwV 1 C.2.2.2.2.1 gv7_123 rfl rfl rfl hd_X7_isStacked ⟨Nat.le_of_ble_eq_true rfl, Nat.le_of_ble_eq_true rfl⟩) rfl rfl (Nat.le_of_ble_eq_true rfl) dX7_ofRing_48 ⟨Nat.zero_le _, Nat.zero_le _⟩ ?_
        refine z_if_eq C (tgt := 58) dX7_ofRing_51 (by decide) (by first | omega | exact b2i_r) (fun h51 => ?_) (fun h51 => ?_)
        · refine z_iconst C dX7_ofRing_58 ?_
          exact z_iret2 C hQ rfl dX7_ofRing_59 ⟨zr (by first | exact (if_neg hn).symm | (refine ((if_pos hb).trans ?_).symm; first | (subst hv; rfl) | (subst hv; show I (o + 1) 4 / 2 ^ n9 % 2 = _; omega) | ((repeat' split) <;> omega))), rfl, rfl, rfl, by first | exact (if_pos ⟨hb, hv⟩).symm | rw [if_neg (by omega)], rfl⟩
        · refine z_iconst C dX7_ofRing_54 ?_
          refine z_goto C (tgt := 59) dX7_ofRing_55 (by decide) ?_
          exact z_iret2 C hQ rfl dX7_ofRing_59 ⟨zr (by first | exact (if_neg hn).symm | (refine ((if_pos hb).trans ?_).symm; first | (subst hv; rfl) | (subst hv; show I (o + 1) 4 / 2 ^ n9 % 2 = _; omega) | ((repeat' split) <;> omega))), rfl, rfl, rfl, by first | exact (if_pos ⟨hb, hv⟩).symm | rw [if_neg (by omega)], rfl⟩
      · refine z_tin C (tgt := 60) 2 dX7_ofRing_11 hv (by decide) (by decide) (by decide) rfl (by decide) ?_
        refine z_aload_n C dX7_ofRing_60 rfl ?_
        refine z_iload_n C dX7_ofRing_61 rfl ?_
        refine z_callVd C (ci := 7) rfl (by decide) (by first | assumption | exact hM.1) (mX7_placeOf l G hM hO (by omega)) (cwV 1 C.2.2.2.2.1 gv7_156 rfl rfl rfl hd_X7_placeOf ⟨Nat.le_of_ble_eq_true rfl, Nat.le_of_ble_eq_true rfl⟩) rfl rfl (Nat.le_of_ble_eq_true rfl) dX7_ofRing_62 ⟨Nat.zero_le _, Nat.zero_le _⟩ ?_
        exact z_iret2 C hQ rfl dX7_ofRing_65 ⟨zr (by first | exact (if_neg hn).symm | (refine ((if_pos hb).trans ?_).symm; first | (subst hv; rfl) | (subst hv; show I (o + 1) 4 / 2 ^ n9 % 2 = _; omega) | ((repeat' split) <;> omega))), rfl, rfl, rfl, by first | exact (if_pos ⟨hb, hv⟩).symm | rw [if_neg (by omega)], rfl⟩
  · have hn := b2i_0.mp h5
    refine z_iconst C dX7_ofRing_8 ?_
    exact z_iret2 C hQ rfl dX7_ofRing_9 ⟨zr (by first | exact (if_neg hn).symm | (refine ((if_pos hb).trans ?_).symm; first | (subst hv; rfl) | (subst hv; show I (o + 1) 4 / 2 ^ n9 % 2 = _; omega) | ((repeat' split) <;> omega))), rfl, rfl, rfl, by first | exact (if_pos ⟨hb, hv⟩).symm | rw [if_neg (by omega)], rfl⟩

set_option maxHeartbeats 4000000 in
set_option maxRecDepth 100000 in
theorem mX7_test (l : Launch) (G : GG) {z : Nat} {K N : Nat → Nat} {I : MI} {R : MR} {o : Nat} (hM : ShM G z K N R o) (hO : Ok (I (o + 1))) {gg wh : Int} (hgg : -2147483648 ≤ gg ∧ gg < 2147483648) (hwh : -2147483648 ≤ wh ∧ wh < 2147483648) : Cod l G yX7_test (Cond.code yX7_test cX7_test 3 (some .int) :: wsL_law) ⟨5, 0, 0, 115⟩ [.ref o, .int (zI gg), .int (zI wh)] z K N I R (some (.int (zI (if 0 ≤ gg ∧ gg ≤ I (o + 1) 5 - 1 then (if 0 ≤ wh ∧ wh ≤ 3 then (if I (o + 1) 3 = 0 then -5 else (if wh = 0 then gTst (I (o + 1)) gg.toNat (I (o + 1) (20 + 36 * gg.toNat)) else if wh = 1 then b2i (gTst (I (o + 1)) gg.toNat (I (o + 1) (20 + 36 * gg.toNat)) ≤ I (o + 1) 2) else if wh = 2 then wTst (I (o + 1)) gg.toNat (I (o + 1) (20 + 36 * gg.toNat)) else 2 * I (o + 1) 3)) else -2) else -1)))) (if (0 ≤ gg ∧ gg ≤ I (o + 1) 5 - 1) ∧ (0 ≤ wh ∧ wh ≤ 3) ∧ ¬ I (o + 1) 3 = 0 then (tstM I o (I (o + 1) (20 + 36 * gg.toNat)) (I (o + 1) (21 + 36 * gg.toNat)) (I (o + 1) (22 + 36 * gg.toNat)) (2 * (I (o + 1) 3).toNat)) else I) R := by
  refine Con.of (own := RX7) (cc := cX7_test) (maxL := 3) (ret := (some .int)) (by decide +kernel) rfl rfl (Nat.le_of_ble_eq_true rfl) (by decide) rfl ?_
  intro p e9 s mt args below meth c Q hin hQ C
  obtain ⟨ho, ⟨r0, r1, r3, r4, r5, r7, r8⟩, ⟨k1, k2, k3, k4, k5, k6, k7⟩, n1, n2, n3, n4, n5, n6, n7⟩ := id hM
  have h5 := hO.2.2.2.2.2.1
  have h3 := hO.2.2.2.1
  have h2 := hO.2.2.1
  refine z_aload_n C dX7_test_0 rfl ?_
  refine z_iload_n C dX7_test_1 rfl ?_
  refine z_callVd C (ci := 7) rfl (by decide) (by first | assumption | exact hM.1) (mX7_isGauge l G hM hO hgg) (cwV 1 C.2.2.2.2.1 gv7_143 rfl rfl rfl hd_X7_isGauge ⟨Nat.le_of_ble_eq_true rfl, Nat.le_of_ble_eq_true rfl⟩) rfl rfl (Nat.le_of_ble_eq_true rfl) dX7_test_2 ⟨Nat.zero_le _, Nat.zero_le _⟩ ?_
  refine z_if_ne C (tgt := 10) dX7_test_5 (by decide) (by first | omega | exact b2i_r) (fun h5 => ?_) (fun h5 => ?_)
  · have hb1 := b2i_1.mp h5
    refine z_iload_n C dX7_test_10 rfl ?_
    refine z_iconst C dX7_test_11 ?_
    refine z_iconst C dX7_test_12 ?_
    refine z_callSd C (mX7_within l G (by omega) (by omega) (by omega)) (va_cwS 3 C.2.2.2.2.1 gv7_39 rfl rfl rfl hs_X7_within ⟨Nat.le_of_ble_eq_true rfl, Nat.le_of_ble_eq_true rfl⟩) rfl rfl (Nat.le_of_ble_eq_true rfl) dX7_test_13 ⟨Nat.zero_le _, Nat.zero_le _⟩ ?_
    refine z_if_ne C (tgt := 22) dX7_test_16 (by decide) (by first | omega | exact b2i_r) (fun h16 => ?_) (fun h16 => ?_)
    · have hb2 := b2i_1.mp h16
      refine z_aload_n C dX7_test_22 rfl ?_
      refine z_gR C (ci := 7) (k := 0) rfl (by decide) rfl (by decide) wl_7 wq_4_3 (by decide) dX7_test_23 (by assumption) (by assumption) ?_
      refine z_iconst C dX7_test_26 ?_
      refine z_ialdk C (3) dX7_test_27 (by assumption) (by first | rfl | omega) (by omega) (by omega) ?_
      refine z_if_ne C (tgt := 34) dX7_test_28 (by decide) (by first | omega | exact b2i_r) (fun h28 => ?_) (fun h28 => ?_)
      · obtain ⟨n9, rfl⟩ := Int.eq_ofNat_of_zero_le (show 0 ≤ gg by omega)
        simp only [Int.toNat_natCast] at hQ
        obtain ⟨c1, c2, c3, c4, c5⟩ := hO.2.2.2.2.2.2.2 n9 (by omega)
        have hgt := gTst_rng hO (by omega) (g := n9) (by omega) c1
        have hrr : ∀ {x y : Int}, x = y → x = (if 0 ≤ (n9 : Int) ∧ (n9 : Int) ≤ I (o + 1) 5 - 1 then (if 0 ≤ wh ∧ wh ≤ 3 then (if I (o + 1) 3 = 0 then -5 else y) else -2) else -1) := fun e => by rw [if_pos hb1, if_pos hb2, if_neg h28]; exact e
        refine z_aload_n C dX7_test_34 rfl ?_
        refine z_iload_n C dX7_test_35 rfl ?_
        refine z_aload_n C dX7_test_36 rfl ?_
        refine z_iload_n C dX7_test_37 rfl ?_
        refine z_iconst C dX7_test_38 ?_
        refine z_callVd C (ci := 7) rfl (by decide) (by first | assumption | exact hM.1) (mX7_part l G hM (by omega) (by omega)) (cwV 2 C.2.2.2.2.1 gv7_64 rfl rfl rfl hd_X7_part ⟨Nat.le_of_ble_eq_true rfl, Nat.le_of_ble_eq_true rfl⟩) rfl rfl (Nat.le_of_ble_eq_true rfl) dX7_test_39 ⟨Nat.zero_le _, Nat.zero_le _⟩ ?_
        rw [show (20 + 36 * (n9 : Int) + 0).toNat = 20 + 36 * n9 by omega]
        refine z_callVd C (ci := 7) rfl (by decide) (by first | assumption | exact hM.1) (mX7_tests l G hM hO (g := n9) (by omega) c1) (cwV 2 C.2.2.2.2.1 gv7_146 rfl rfl rfl hd_X7_tests ⟨Nat.le_of_ble_eq_true rfl, Nat.le_of_ble_eq_true rfl⟩) rfl rfl (Nat.le_of_ble_eq_true rfl) dX7_test_42 ⟨Nat.zero_le _, Nat.zero_le _⟩ ?_
        refine z_iload_n C dX7_test_45 rfl ?_
        refine z_if_ne C (tgt := 56) dX7_test_46 (by decide) (by first | omega | exact b2i_r) (fun h46 => ?_) (fun h46 => ?_)
        · refine z_iload_n C dX7_test_56 rfl ?_
          refine z_iconst C dX7_test_57 ?_
          refine z_icmp_ne C (tgt := 82) dX7_test_58 (by decide) (by first | omega | exact b2i_r) (by first | omega | exact b2i_r) (fun h58 => ?_) (fun h58 => ?_)
          · refine z_iload_n C dX7_test_82 rfl ?_
            refine z_iconst C dX7_test_83 ?_
            refine z_icmp_ne C (tgt := 94) dX7_test_84 (by decide) (by first | omega | exact b2i_r) (by first | omega | exact b2i_r) (fun h84 => ?_) (fun h84 => ?_)
            · refine z_iconst C dX7_test_94 ?_
              refine z_aload_n C dX7_test_95 rfl ?_
              refine z_gR C (ci := 7) (k := 0) rfl (by decide) rfl (by decide) wl_7 wq_4_3 (by decide) dX7_test_96 (by assumption) (by assumption) ?_
              refine z_iconst C dX7_test_99 ?_
              refine z_ialdk C (3) dX7_test_100 (by assumption) (by first | rfl | omega) (by omega) (by omega) ?_
              rw [tstM_r _ _ _ _ _ _ _ (by omega) (by omega) (by omega)]
              refine z_imul C dX7_test_101 ?_
              exact z_iret2 C hQ rfl dX7_test_102 ⟨zr (by first | exact (if_neg n1).symm | exact ((if_pos hb1).trans (if_neg n2)).symm | exact ((if_pos hb1).trans ((if_pos hb2).trans (if_pos h28))).symm | exact hrr (by show _ = _; first | (rw [if_pos (by omega)]; done) | (rw [if_neg (by omega), if_pos (by omega)]; first | exact (b2i_t (by omega)).symm | exact (b2i_f (by omega)).symm) | (rw [if_neg (by omega), if_neg (by omega), if_pos (by omega)]; rfl) | (rw [if_neg (by omega), if_neg (by omega), if_neg (by omega)]))), rfl, rfl, rfl, by first | exact (if_pos ⟨hb1, hb2, h28⟩).symm | exact (if_neg (fun z => n1 z.1)).symm | exact (if_neg (fun z => n2 z.2.1)).symm | exact (if_neg (fun z => z.2.2 h28)).symm, rfl⟩
            · refine z_aload_n C dX7_test_87 rfl ?_
              refine z_gI C (ci := 7) (k := 10) rfl (by decide) rfl (by decide) wl_7 wq_19_6 rfl dX7_test_88 (by assumption) ?_
              rw [tstM_10]
              refine z_goto C (tgt := 102) dX7_test_91 (by decide) ?_
              exact z_iret2 C hQ rfl dX7_test_102 ⟨zr (by first | exact (if_neg n1).symm | exact ((if_pos hb1).trans (if_neg n2)).symm | exact ((if_pos hb1).trans ((if_pos hb2).trans (if_pos h28))).symm | exact hrr (by show _ = _; first | (rw [if_pos (by omega)]; done) | (rw [if_neg (by omega), if_pos (by omega)]; first | exact (b2i_t (by omega)).symm | exact (b2i_f (by omega)).symm) | (rw [if_neg (by omega), if_neg (by omega), if_pos (by omega)]; rfl) | (rw [if_neg (by omega), if_neg (by omega), if_neg (by omega)]))), rfl, rfl, rfl, by first | exact (if_pos ⟨hb1, hb2, h28⟩).symm | exact (if_neg (fun z => n1 z.1)).symm | exact (if_neg (fun z => n2 z.2.1)).symm | exact (if_neg (fun z => z.2.2 h28)).symm, rfl⟩
          · refine z_aload_n C dX7_test_61 rfl ?_
            refine z_gI C (ci := 7) (k := 9) rfl (by decide) rfl (by decide) wl_7 wq_19_1 rfl dX7_test_62 (by assumption) ?_
            rw [tstM_9, show grt (tstW (I (o + 1)) (I (o + 1) (20 + 36 * n9)) (I (o + 1) (21 + 36 * n9)) (I (o + 1) (22 + 36 * n9))) (2 * (I (o + 1) 3).toNat) = gTst (I (o + 1)) n9 (I (o + 1) (20 + 36 * n9)) from rfl]
            refine z_aload_n C dX7_test_65 rfl ?_
            refine z_gR C (ci := 7) (k := 0) rfl (by decide) rfl (by decide) wl_7 wq_4_3 (by decide) dX7_test_66 (by assumption) (by assumption) ?_
            refine z_iconst C dX7_test_69 ?_
            refine z_ialdk C (2) dX7_test_70 (by assumption) (by first | rfl | omega) (by omega) (by omega) ?_
            rw [tstM_r _ _ _ _ _ _ _ (by omega) (by omega) (by omega)]
            refine z_icmp_gt C (tgt := 78) dX7_test_71 (by decide) (by first | omega | exact b2i_r) (by first | omega | exact b2i_r) (fun h71 => ?_) (fun h71 => ?_)
            · refine z_iconst C dX7_test_78 ?_
              refine z_goto C (tgt := 102) dX7_test_79 (by decide) ?_
              exact z_iret2 C hQ rfl dX7_test_102 ⟨zr (by first | exact (if_neg n1).symm | exact ((if_pos hb1).trans (if_neg n2)).symm | exact ((if_pos hb1).trans ((if_pos hb2).trans (if_pos h28))).symm | exact hrr (by show _ = _; first | (rw [if_pos (by omega)]; done) | (rw [if_neg (by omega), if_pos (by omega)]; first | exact (b2i_t (by omega)).symm | exact (b2i_f (by omega)).symm) | (rw [if_neg (by omega), if_neg (by omega), if_pos (by omega)]; rfl) | (rw [if_neg (by omega), if_neg (by omega), if_neg (by omega)]))), rfl, rfl, rfl, by first | exact (if_pos ⟨hb1, hb2, h28⟩).symm | exact (if_neg (fun z => n1 z.1)).symm | exact (if_neg (fun z => n2 z.2.1)).symm | exact (if_neg (fun z => z.2.2 h28)).symm, rfl⟩
            · refine z_iconst C dX7_test_74 ?_
              refine z_goto C (tgt := 102) dX7_test_75 (by decide) ?_
              exact z_iret2 C hQ rfl dX7_test_102 ⟨zr (by first | exact (if_neg n1).symm | exact ((if_pos hb1).trans (if_neg n2)).symm | exact ((if_pos hb1).trans ((if_pos hb2).trans (if_pos h28))).symm | exact hrr (by show _ = _; first | (rw [if_pos (by omega)]; done) | (rw [if_neg (by omega), if_pos (by omega)]; first | exact (b2i_t (by omega)).symm | exact (b2i_f (by omega)).symm) | (rw [if_neg (by omega), if_neg (by omega), if_pos (by omega)]; rfl) | (rw [if_neg (by omega), if_neg (by omega), if_neg (by omega)]))), rfl, rfl, rfl, by first | exact (if_pos ⟨hb1, hb2, h28⟩).symm | exact (if_neg (fun z => n1 z.1)).symm | exact (if_neg (fun z => n2 z.2.1)).symm | exact (if_neg (fun z => z.2.2 h28)).symm, rfl⟩
        · refine z_aload_n C dX7_test_49 rfl ?_
          refine z_gI C (ci := 7) (k := 9) rfl (by decide) rfl (by decide) wl_7 wq_19_1 rfl dX7_test_50 (by assumption) ?_
          rw [tstM_9, show grt (tstW (I (o + 1)) (I (o + 1) (20 + 36 * n9)) (I (o + 1) (21 + 36 * n9)) (I (o + 1) (22 + 36 * n9))) (2 * (I (o + 1) 3).toNat) = gTst (I (o + 1)) n9 (I (o + 1) (20 + 36 * n9)) from rfl]
          refine z_goto C (tgt := 102) dX7_test_53 (by decide) ?_
          exact z_iret2 C hQ rfl dX7_test_102 ⟨zr (by first | exact (if_neg n1).symm | exact ((if_pos hb1).trans (if_neg n2)).symm | exact ((if_pos hb1).trans ((if_pos hb2).trans (if_pos h28))).symm | exact hrr (by show _ = _; first | (rw [if_pos (by omega)]; done) | (rw [if_neg (by omega), if_pos (by omega)]; first | exact (b2i_t (by omega)).symm | exact (b2i_f (by omega)).symm) | (rw [if_neg (by omega), if_neg (by omega), if_pos (by omega)]; rfl) | (rw [if_neg (by omega), if_neg (by omega), if_neg (by omega)]))), rfl, rfl, rfl, by first | exact (if_pos ⟨hb1, hb2, h28⟩).symm | exact (if_neg (fun z => n1 z.1)).symm | exact (if_neg (fun z => n2 z.2.1)).symm | exact (if_neg (fun z => z.2.2 h28)).symm, rfl⟩
      · refine z_bipush C dX7_test_31 (by decide) ?_
        exact z_iret2 C hQ rfl dX7_test_33 ⟨zr (by first | exact (if_neg n1).symm | exact ((if_pos hb1).trans (if_neg n2)).symm | exact ((if_pos hb1).trans ((if_pos hb2).trans (if_pos h28))).symm | exact hrr (by show _ = _; first | (rw [if_pos (by omega)]; done) | (rw [if_neg (by omega), if_pos (by omega)]; first | exact (b2i_t (by omega)).symm | exact (b2i_f (by omega)).symm) | (rw [if_neg (by omega), if_neg (by omega), if_pos (by omega)]; rfl) | (rw [if_neg (by omega), if_neg (by omega), if_neg (by omega)]))), rfl, rfl, rfl, by first | exact (if_pos ⟨hb1, hb2, h28⟩).symm | exact (if_neg (fun z => n1 z.1)).symm | exact (if_neg (fun z => n2 z.2.1)).symm | exact (if_neg (fun z => z.2.2 h28)).symm, rfl⟩
    · have n2 := b2i_0.mp h16
      refine z_bipush C dX7_test_19 (by decide) ?_
      exact z_iret2 C hQ rfl dX7_test_21 ⟨zr (by first | exact (if_neg n1).symm | exact ((if_pos hb1).trans (if_neg n2)).symm | exact ((if_pos hb1).trans ((if_pos hb2).trans (if_pos h28))).symm | exact hrr (by show _ = _; first | (rw [if_pos (by omega)]; done) | (rw [if_neg (by omega), if_pos (by omega)]; first | exact (b2i_t (by omega)).symm | exact (b2i_f (by omega)).symm) | (rw [if_neg (by omega), if_neg (by omega), if_pos (by omega)]; rfl) | (rw [if_neg (by omega), if_neg (by omega), if_neg (by omega)]))), rfl, rfl, rfl, by first | exact (if_pos ⟨hb1, hb2, h28⟩).symm | exact (if_neg (fun z => n1 z.1)).symm | exact (if_neg (fun z => n2 z.2.1)).symm | exact (if_neg (fun z => z.2.2 h28)).symm, rfl⟩
  · have n1 := b2i_0.mp h5
    refine z_iconst C dX7_test_8 ?_
    exact z_iret2 C hQ rfl dX7_test_9 ⟨zr (by first | exact (if_neg n1).symm | exact ((if_pos hb1).trans (if_neg n2)).symm | exact ((if_pos hb1).trans ((if_pos hb2).trans (if_pos h28))).symm | exact hrr (by show _ = _; first | (rw [if_pos (by omega)]; done) | (rw [if_neg (by omega), if_pos (by omega)]; first | exact (b2i_t (by omega)).symm | exact (b2i_f (by omega)).symm) | (rw [if_neg (by omega), if_neg (by omega), if_pos (by omega)]; rfl) | (rw [if_neg (by omega), if_neg (by omega), if_neg (by omega)]))), rfl, rfl, rfl, by first | exact (if_pos ⟨hb1, hb2, h28⟩).symm | exact (if_neg (fun z => n1 z.1)).symm | exact (if_neg (fun z => n2 z.2.1)).symm | exact (if_neg (fun z => z.2.2 h28)).symm, rfl⟩

