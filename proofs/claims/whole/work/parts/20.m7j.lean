def cmV (P f : Nat → Int) (v : Int) : Int := if v < 0 then -1 else if nxB P f 44 = 0 then -1 else tnV P (nxF P f 44)
def cmF (P f : Nat → Int) (v : Int) : Nat → Int := if v < 0 then f else if nxB P f 44 = 0 then nxF P f 44 else tnF P (nxF P f 44)
def rgv (P f : Nat → Int) : Int := tnV P (nxF P f 45)
def rg1 (P f : Nat → Int) : Nat → Int := st1 (tnF P (nxF P f 45)) 13 (if nxB P f 45 = 0 then rgv P f else -rgv P f)
def rg2 (P f : Nat → Int) : Nat → Int := st1 (cmF P (rg1 P f) (rgv P f)) 14 (cmV P (rg1 P f) (rgv P f))
def rg3 (P f : Nat → Int) : Nat → Int := st1 (cmF P (rg2 P f) (rg2 P f 14)) 15 (cmV P (rg2 P f) (rg2 P f 14))
def ro2 (P f : Nat → Int) : Nat → Int := atS (st1 f 12 (chF P f (f 11))) 1
abbrev isNo (w : Int) : Prop := w = 43 ∨ w = 45 ∨ w = 109 ∨ w = 116
def roF (P f : Nat → Int) : Nat → Int := if isNo (chF P f (f 11)) then st1 (tnF P (ro2 P f)) 13 (tnV P (ro2 P f)) else if chF P f (f 11) = 97 then st1 (tdF P (ro2 P f)) 13 (tdV P (ro2 P f)) else if chF P f (f 11) = 103 then rg3 P (ro2 P f) else st1 (ro2 P f) 11 (ro2 P f 11 - 1)
def roB (P f : Nat → Int) : Int := if isNo (chF P f (f 11)) then b2i (0 ≤ tnV P (ro2 P f)) else if chF P f (f 11) = 97 then b2i (0 ≤ tdV P (ro2 P f)) else if chF P f (f 11) = 103 then b2i (0 ≤ rg3 P (ro2 P f) 15) else 0
def ffL (P : Nat → Int) : Nat → (Nat → Int) → Int × (Nat → Int)
  | 0, f => (0, f)
  | n + 1, f => if roB P f = 0 then (roF P f 11, roF P f) else if roF P f 11 = roF P f 6 then (-6, roF P f) else if nxB P (roF P f) 59 = 0 then (nxF P (roF P f) 59 11, nxF P (roF P f) 59) else ffL P n (nxF P (roF P f) 59)
theorem ffL_s (P : Nat → Int) (n : Nat) (f : Nat → Int) : ffL P (n + 1) f = if roB P f = 0 then (roF P f 11, roF P f) else if roF P f 11 = roF P f 6 then (-6, roF P f) else if nxB P (roF P f) 59 = 0 then (nxF P (roF P f) 59 11, nxF P (roF P f) 59) else ffL P n (nxF P (roF P f) 59) := rfl
def ffV (P f : Nat → Int) : Int := (ffL P 82 (st1 f 11 0)).1
def ffF (P f : Nat → Int) : Nat → Int := (ffL P 82 (st1 f 11 0)).2
theorem nx_01 (P f : Nat → Int) (w : Int) : 0 ≤ nxB P f w ∧ nxB P f w ≤ 1 := b2i_01
/-- rows that keep what is read and go on -/
def Fwd (f g : Nat → Int) : Prop := g 6 = f 6 ∧ f 11 ≤ g 11 ∧ ∀ j : Nat, j < 11 → g j = f j
theorem Fwd.rfl {f : Nat → Int} : Fwd f f := ⟨_root_.rfl, Int.le_refl _, fun _ _ => _root_.rfl⟩
theorem Fwd.trans {f g h : Nat → Int} (a : Fwd f g) (b : Fwd g h) : Fwd f h := ⟨b.1.trans a.1, Int.le_trans a.2.1 b.2.1, fun j hj => (b.2.2 j hj).trans (a.2.2 j hj)⟩
theorem Fwd.at (f : Nat → Int) {v : Int} (hv : 0 ≤ v) : Fwd f (atS f v) := by
  unfold atS
  exact ⟨st1_n (by omega), by rw [st1_s]; omega, fun j hj => st1_n (by omega)⟩
theorem Fwd.st (f : Nat → Int) {k : Nat} (v : Int) (hk : 11 < k) : Fwd f (st1 f k v) := ⟨st1_n (by omega), by rw [st1_n (by omega)]; omega, fun j hj => st1_n (by omega)⟩
theorem Fwd.nx (P f : Nat → Int) (w : Int) : Fwd f (nxF P f w) := Fwd.at f (nx_01 P f w).1
theorem Fwd.td (P f : Nat → Int) : Fwd f (tdF P f) := by
  unfold tdF
  split
  · exact Fwd.at f (by omega)
  · exact Fwd.rfl
theorem Fwd.tnL {P : Nat → Int} : ∀ (n : Nat) (v : Int) (f : Nat → Int), Fwd f (tnL P n v f).2
  | 0, _, _ => Fwd.rfl
  | n + 1, v, f => by
    rw [tnL_s]
    split
    · exact (Fwd.td P f).trans (Fwd.tnL n _ _)
    · exact Fwd.rfl
theorem Fwd.tn (P f : Nat → Int) : Fwd f (tnF P f) := (Fwd.td P f).trans (Fwd.tnL 3 _ _)
theorem Fwd.cm (P f : Nat → Int) (v : Int) : Fwd f (cmF P f v) := by
  unfold cmF
  split
  · exact Fwd.rfl
  · split
    · exact Fwd.nx P f 44
    · exact (Fwd.nx P f 44).trans (Fwd.tn _ _)
theorem Fwd.rg (P f : Nat → Int) : Fwd f (rg3 P f) :=
  ((((((Fwd.nx P f 45).trans (Fwd.tn _ _)).trans (Fwd.st _ _ (by omega) : Fwd _ (rg1 P f))).trans (Fwd.cm _ _ _)).trans (Fwd.st _ _ (by omega) : Fwd _ (rg2 P f))).trans (Fwd.cm _ _ _)).trans (Fwd.st _ _ (by omega) : Fwd _ (rg3 P f))
theorem Fwd.r2 (P f : Nat → Int) : Fwd f (ro2 P f) := (Fwd.st f _ (by omega)).trans (Fwd.at _ (by omega))
theorem ro2_11 (P f : Nat → Int) : ro2 P f 11 = f 11 + 1 := by
  unfold ro2 atS
  rw [st1_s, st1_n (by omega)]
theorem Fwd.ro (P f : Nat → Int) : Fwd f (roF P f) := by
  unfold roF
  split
  · exact ((Fwd.r2 P f).trans (Fwd.tn _ _)).trans (Fwd.st _ _ (by omega))
  · split
    · exact ((Fwd.r2 P f).trans (Fwd.td _ _)).trans (Fwd.st _ _ (by omega))
    · split
      · exact (Fwd.r2 P f).trans (Fwd.rg _ _)
      · have h := Fwd.r2 P f
        have h1 := ro2_11 P f
        exact ⟨(st1_n (by omega)).trans h.1, by rw [st1_s]; omega, fun j hj => (st1_n (by omega)).trans (h.2.2 j hj)⟩
theorem TOk.cm {P f : Nat → Int} (h : TOk P f) (v : Int) : TOk P (cmF P f v) := by
  unfold cmF
  split
  · exact h
  · split
    · exact h.nx (by omega)
    · exact (h.nx (by omega)).tn
theorem TOk.rg1 {P f : Nat → Int} (h : TOk P f) : TOk P (rg1 P f) := (h.nx (by omega)).tn.st _ (by omega) (by omega)
theorem TOk.rg2 {P f : Nat → Int} (h : TOk P f) : TOk P (rg2 P f) := (h.rg1.cm _).st _ (by omega) (by omega)
theorem TOk.rg3 {P f : Nat → Int} (h : TOk P f) : TOk P (rg3 P f) := (h.rg2.cm _).st _ (by omega) (by omega)
theorem TOk.r2 {P f : Nat → Int} (h : TOk P f) (hc : ¬ chF P f (f 11) = -1) : TOk P (ro2 P f) := by
  have h1 := h.st (k := 12) (chF P f (f 11)) (by omega) (by omega)
  have h2 := chF_lt hc
  have h3 := h.2.2
  refine h1.at ?_
  rw [st1_n (by omega), st1_n (by omega)]
  omega
theorem TOk.ro {P f : Nat → Int} (h : TOk P f) : TOk P (roF P f) := by
  unfold roF
  split
  · exact (h.r2 (by omega)).tn.st _ (by omega) (by omega)
  · split
    · exact (h.r2 (by omega)).td.st _ (by omega) (by omega)
    · split
      · exact (h.r2 (by omega)).rg3
      · have h1 := ro2_11 P f
        have h2 := (Fwd.r2 P f).1
        refine ⟨?_, h.2.1, ?_⟩
        · rw [st1_n (by omega), h2]; exact h.1
        · rw [st1_s, st1_n (by omega), h2, h1]; have := h.2.2; omega
theorem roB_01 (P f : Nat → Int) : 0 ≤ roB P f ∧ roB P f ≤ 1 := by
  unfold roB
  split
  · exact b2i_01
  · split
    · exact b2i_01
    · split
      · exact b2i_01
      · omega
theorem cmV_rng {P f : Nat → Int} (h : TOk P f) (v : Int) : -1 ≤ cmV P f v ∧ cmV P f v ≤ 9999 := by
  have := tnV_rng (h.nx (w := 44) (by omega))
  unfold cmV
  split
  · omega
  · split <;> omega
set_option maxHeartbeats 4000000 in
set_option maxRecDepth 100000 in
theorem mX7_readsGauge (l : Launch) (G : GG) {z : Nat} {K N : Nat → Nat} {I : MI} {R : MR} {o : Nat} (hM : ShM G z K N R o) {f : Nat → Int} (hT : TOk (I (o + 5)) f)  : Cod l G yX7_readsGauge (Cond.code yX7_readsGauge cX7_readsGauge 3 (some .boolean) :: wsL_law) ⟨3, 0, 0, 64⟩ [.ref o] z K N (va_up I o f) R (some (.int (zI (b2i (0 ≤ rg3 (I (o + 5)) f 15))))) (va_up I o (rg3 (I (o + 5)) f)) R := by
  refine Con.of (own := RX7) (cc := cX7_readsGauge) (maxL := 3) (ret := (some .boolean)) (by decide +kernel) rfl rfl (Nat.le_of_ble_eq_true rfl) (by decide) rfl ?_
  intro p e9 s mt args below meth c Q hin hQ C
  obtain ⟨ho, ⟨r0, r1, r3, r4, r5, r7, r8⟩, ⟨k1, k2, k3, k4, k5, k6, k7⟩, n1, n2, n3, n4, n5, n6, n7⟩ := id hM
  have hT9 := id hT
  obtain ⟨t6, tP, t11⟩ := hT9
  have e1 := tnV_rng (hT.nx (w := 45) (by omega))
  have e2 := cmV_rng hT.rg1 (rgv (I (o + 5)) f)
  have e3 := cmV_rng hT.rg2 (rg2 (I (o + 5)) f 14)
  have e4 : rg2 (I (o + 5)) f 14 = cmV (I (o + 5)) (rg1 (I (o + 5)) f) (rgv (I (o + 5)) f) := st1_s _ _ _
  have e5 : rg3 (I (o + 5)) f 15 = cmV (I (o + 5)) (rg2 (I (o + 5)) f) (rg2 (I (o + 5)) f 14) := st1_s _ _ _
  have e6 : rgv (I (o + 5)) f = tnV (I (o + 5)) (nxF (I (o + 5)) f 45) := rfl
  refine z_aload_n C dX7_readsGauge_0 rfl ?_
  refine z_bipush C dX7_readsGauge_1 (by decide) ?_
  refine z_callVd C (ci := 7) rfl (by decide) (by first | assumption | exact hM.1) (mX7_isNext l G (I := I) hM hT (w := 45) (by omega)) (cwV 1 C.2.2.2.2.1 gv7_180 rfl rfl rfl hd_X7_isNext ⟨Nat.le_of_ble_eq_true rfl, Nat.le_of_ble_eq_true rfl⟩) rfl rfl (Nat.le_of_ble_eq_true rfl) dX7_readsGauge_3 ⟨Nat.zero_le _, Nat.zero_le _⟩ ?_
  refine z_istore_n C dX7_readsGauge_6 (by decide) rfl ?_
  refine z_aload_n C dX7_readsGauge_7 rfl ?_
  refine z_callVd C (ci := 7) rfl (by decide) (by first | assumption | exact hM.1) (mX7_takeNumber l G (I := I) hM (hT.nx (w := 45) (by omega))) (cwV 0 C.2.2.2.2.1 gv7_183 rfl rfl rfl hd_X7_takeNumber ⟨Nat.le_of_ble_eq_true rfl, Nat.le_of_ble_eq_true rfl⟩) rfl rfl (Nat.le_of_ble_eq_true rfl) dX7_readsGauge_8 ⟨Nat.zero_le _, Nat.zero_le _⟩ ?_
  rw [show tnV (I (o + 5)) (nxF (I (o + 5)) f 45) = rgv (I (o + 5)) f from rfl]
  refine z_istore_n C dX7_readsGauge_11 (by decide) rfl ?_
  refine z_aload_n C dX7_readsGauge_12 rfl ?_
  refine z_iload_n C dX7_readsGauge_13 rfl ?_
  refine z_if_eq C (tgt := 22) dX7_readsGauge_14 (by decide) (by first | omega | exact b2i_r) (fun h14 => ?_) (fun h14 => ?_)
  · refine z_iload_n C dX7_readsGauge_22 rfl ?_
    refine z_pI C (ci := 7) (k := 13) rfl (by decide) rfl (by decide) tyX7_ok nmX7 wl_7 wq_28_23 rfl (Or.inl rfl) dX7_readsGauge_23 (by assumption) ?_
    refine z_mem (I' := va_up I o (rg1 (I (o + 5)) f)) (by rw [u2_vst]; unfold rg1; first | rw [if_pos h14] | rw [if_neg h14]) rfl ?_
    refine z_aload_n C dX7_readsGauge_26 rfl ?_
    refine z_iload_n C dX7_readsGauge_27 rfl ?_
    refine z_if_lt C (tgt := 47) dX7_readsGauge_28 (by decide) (by first | omega | exact b2i_r) (fun h28 => ?_) (fun h28 => ?_)
    · refine z_iconst C dX7_readsGauge_47 ?_
      refine z_pI C (ci := 7) (k := 14) rfl (by decide) rfl (by decide) tyX7_ok nmX7 wl_7 wq_29_16 rfl (Or.inl rfl) dX7_readsGauge_48 (by assumption) ?_
      refine z_mem (I' := va_up I o (rg2 (I (o + 5)) f)) (by rw [u2_vst]; unfold rg2 cmF cmV; first | (rw [if_pos h28, if_pos h28]; done) | (rw [if_neg h28, if_neg h28, if_pos h37, if_pos h37]; done) | (rw [if_neg h28, if_neg h28, if_neg h37, if_neg h37])) rfl ?_
      refine z_aload_n C dX7_readsGauge_51 rfl ?_
      refine z_aload_n C dX7_readsGauge_52 rfl ?_
      refine z_gI C (ci := 7) (k := 14) rfl (by decide) rfl (by decide) wl_7 wq_29_16 rfl dX7_readsGauge_53 (by assumption) ?_
      rw [va_up_s]
      refine z_if_lt C (tgt := 75) dX7_readsGauge_56 (by decide) (by first | omega | exact b2i_r) (fun h56 => ?_) (fun h56 => ?_)
      · refine z_iconst C dX7_readsGauge_75 ?_
        refine z_pI C (ci := 7) (k := 15) rfl (by decide) rfl (by decide) tyX7_ok nmX7 wl_7 wq_29_17 rfl (Or.inl rfl) dX7_readsGauge_76 (by assumption) ?_
        refine z_mem (I' := va_up I o (rg3 (I (o + 5)) f)) (by rw [u2_vst]; unfold rg3 cmF cmV; first | (rw [if_pos h56, if_pos h56]; done) | (rw [if_neg h56, if_neg h56, if_pos h65, if_pos h65]; done) | (rw [if_neg h56, if_neg h56, if_neg h65, if_neg h65])) rfl ?_
        refine z_aload_n C dX7_readsGauge_79 rfl ?_
        refine z_gI C (ci := 7) (k := 15) rfl (by decide) rfl (by decide) wl_7 wq_29_17 rfl dX7_readsGauge_80 (by assumption) ?_
        rw [va_up_s]
        refine z_if_lt C (tgt := 90) dX7_readsGauge_83 (by decide) (by first | omega | exact b2i_r) (fun h83 => ?_) (fun h83 => ?_)
        · refine z_iconst C dX7_readsGauge_90 ?_
          exact z_zret2 C hQ rfl (by first | exact Or.inl rfl | exact Or.inr rfl | exact b2i_c | omega) dX7_readsGauge_91 ⟨zr (by first | exact (b2i_t (by omega)).symm | exact (b2i_f (by omega)).symm), rfl, rfl, rfl, rfl, rfl⟩
        · refine z_iconst C dX7_readsGauge_86 ?_
          refine z_goto C (tgt := 91) dX7_readsGauge_87 (by decide) ?_
          exact z_zret2 C hQ rfl (by first | exact Or.inl rfl | exact Or.inr rfl | exact b2i_c | omega) dX7_readsGauge_91 ⟨zr (by first | exact (b2i_t (by omega)).symm | exact (b2i_f (by omega)).symm), rfl, rfl, rfl, rfl, rfl⟩
      · refine z_aload_n C dX7_readsGauge_59 rfl ?_
        refine z_bipush C dX7_readsGauge_60 (by decide) ?_
        refine z_callVd C (ci := 7) rfl (by decide) (by first | assumption | exact hM.1) (mX7_isNext l G (I := I) hM hT.rg2 (w := 44) (by omega)) (cwV 1 C.2.2.2.2.1 gv7_180 rfl rfl rfl hd_X7_isNext ⟨Nat.le_of_ble_eq_true rfl, Nat.le_of_ble_eq_true rfl⟩) rfl rfl (Nat.le_of_ble_eq_true rfl) dX7_readsGauge_62 ⟨Nat.zero_le _, Nat.zero_le _⟩ ?_
        refine z_if_eq C (tgt := 75) dX7_readsGauge_65 (by decide) (by first | omega | exact b2i_r) (fun h65 => ?_) (fun h65 => ?_)
        · refine z_iconst C dX7_readsGauge_75 ?_
          refine z_pI C (ci := 7) (k := 15) rfl (by decide) rfl (by decide) tyX7_ok nmX7 wl_7 wq_29_17 rfl (Or.inl rfl) dX7_readsGauge_76 (by assumption) ?_
          refine z_mem (I' := va_up I o (rg3 (I (o + 5)) f)) (by rw [u2_vst]; unfold rg3 cmF cmV; first | (rw [if_pos h56, if_pos h56]; done) | (rw [if_neg h56, if_neg h56, if_pos h65, if_pos h65]; done) | (rw [if_neg h56, if_neg h56, if_neg h65, if_neg h65])) rfl ?_
          refine z_aload_n C dX7_readsGauge_79 rfl ?_
          refine z_gI C (ci := 7) (k := 15) rfl (by decide) rfl (by decide) wl_7 wq_29_17 rfl dX7_readsGauge_80 (by assumption) ?_
          rw [va_up_s]
          refine z_if_lt C (tgt := 90) dX7_readsGauge_83 (by decide) (by first | omega | exact b2i_r) (fun h83 => ?_) (fun h83 => ?_)
          · refine z_iconst C dX7_readsGauge_90 ?_
            exact z_zret2 C hQ rfl (by first | exact Or.inl rfl | exact Or.inr rfl | exact b2i_c | omega) dX7_readsGauge_91 ⟨zr (by first | exact (b2i_t (by omega)).symm | exact (b2i_f (by omega)).symm), rfl, rfl, rfl, rfl, rfl⟩
          · refine z_iconst C dX7_readsGauge_86 ?_
            refine z_goto C (tgt := 91) dX7_readsGauge_87 (by decide) ?_
            exact z_zret2 C hQ rfl (by first | exact Or.inl rfl | exact Or.inr rfl | exact b2i_c | omega) dX7_readsGauge_91 ⟨zr (by first | exact (b2i_t (by omega)).symm | exact (b2i_f (by omega)).symm), rfl, rfl, rfl, rfl, rfl⟩
        · refine z_aload_n C dX7_readsGauge_68 rfl ?_
          refine z_callVd C (ci := 7) rfl (by decide) (by first | assumption | exact hM.1) (mX7_takeNumber l G (I := I) hM (hT.rg2.nx (w := 44) (by omega))) (cwV 0 C.2.2.2.2.1 gv7_183 rfl rfl rfl hd_X7_takeNumber ⟨Nat.le_of_ble_eq_true rfl, Nat.le_of_ble_eq_true rfl⟩) rfl rfl (Nat.le_of_ble_eq_true rfl) dX7_readsGauge_69 ⟨Nat.zero_le _, Nat.zero_le _⟩ ?_
          refine z_goto C (tgt := 76) dX7_readsGauge_72 (by decide) ?_
          refine z_pI C (ci := 7) (k := 15) rfl (by decide) rfl (by decide) tyX7_ok nmX7 wl_7 wq_29_17 rfl (Or.inl rfl) dX7_readsGauge_76 (by assumption) ?_
          refine z_mem (I' := va_up I o (rg3 (I (o + 5)) f)) (by rw [u2_vst]; unfold rg3 cmF cmV; first | (rw [if_pos h56, if_pos h56]; done) | (rw [if_neg h56, if_neg h56, if_pos h65, if_pos h65]; done) | (rw [if_neg h56, if_neg h56, if_neg h65, if_neg h65])) rfl ?_
          refine z_aload_n C dX7_readsGauge_79 rfl ?_
          refine z_gI C (ci := 7) (k := 15) rfl (by decide) rfl (by decide) wl_7 wq_29_17 rfl dX7_readsGauge_80 (by assumption) ?_
          rw [va_up_s]
          refine z_if_lt C (tgt := 90) dX7_readsGauge_83 (by decide) (by first | omega | exact b2i_r) (fun h83 => ?_) (fun h83 => ?_)
          · refine z_iconst C dX7_readsGauge_90 ?_
            exact z_zret2 C hQ rfl (by first | exact Or.inl rfl | exact Or.inr rfl | exact b2i_c | omega) dX7_readsGauge_91 ⟨zr (by first | exact (b2i_t (by omega)).symm | exact (b2i_f (by omega)).symm), rfl, rfl, rfl, rfl, rfl⟩
          · refine z_iconst C dX7_readsGauge_86 ?_
            refine z_goto C (tgt := 91) dX7_readsGauge_87 (by decide) ?_
            exact z_zret2 C hQ rfl (by first | exact Or.inl rfl | exact Or.inr rfl | exact b2i_c | omega) dX7_readsGauge_91 ⟨zr (by first | exact (b2i_t (by omega)).symm | exact (b2i_f (by omega)).symm), rfl, rfl, rfl, rfl, rfl⟩
    · refine z_aload_n C dX7_readsGauge_31 rfl ?_
      refine z_bipush C dX7_readsGauge_32 (by decide) ?_
      refine z_callVd C (ci := 7) rfl (by decide) (by first | assumption | exact hM.1) (mX7_isNext l G (I := I) hM hT.rg1 (w := 44) (by omega)) (cwV 1 C.2.2.2.2.1 gv7_180 rfl rfl rfl hd_X7_isNext ⟨Nat.le_of_ble_eq_true rfl, Nat.le_of_ble_eq_true rfl⟩) rfl rfl (Nat.le_of_ble_eq_true rfl) dX7_readsGauge_34 ⟨Nat.zero_le _, Nat.zero_le _⟩ ?_
      refine z_if_eq C (tgt := 47) dX7_readsGauge_37 (by decide) (by first | omega | exact b2i_r) (fun h37 => ?_) (fun h37 => ?_)
      · refine z_iconst C dX7_readsGauge_47 ?_
        refine z_pI C (ci := 7) (k := 14) rfl (by decide) rfl (by decide) tyX7_ok nmX7 wl_7 wq_29_16 rfl (Or.inl rfl) dX7_readsGauge_48 (by assumption) ?_
        refine z_mem (I' := va_up I o (rg2 (I (o + 5)) f)) (by rw [u2_vst]; unfold rg2 cmF cmV; first | (rw [if_pos h28, if_pos h28]; done) | (rw [if_neg h28, if_neg h28, if_pos h37, if_pos h37]; done) | (rw [if_neg h28, if_neg h28, if_neg h37, if_neg h37])) rfl ?_
        refine z_aload_n C dX7_readsGauge_51 rfl ?_
        refine z_aload_n C dX7_readsGauge_52 rfl ?_
        refine z_gI C (ci := 7) (k := 14) rfl (by decide) rfl (by decide) wl_7 wq_29_16 rfl dX7_readsGauge_53 (by assumption) ?_
        rw [va_up_s]
        refine z_if_lt C (tgt := 75) dX7_readsGauge_56 (by decide) (by first | omega | exact b2i_r) (fun h56 => ?_) (fun h56 => ?_)
        · refine z_iconst C dX7_readsGauge_75 ?_
          refine z_pI C (ci := 7) (k := 15) rfl (by decide) rfl (by decide) tyX7_ok nmX7 wl_7 wq_29_17 rfl (Or.inl rfl) dX7_readsGauge_76 (by assumption) ?_
          refine z_mem (I' := va_up I o (rg3 (I (o + 5)) f)) (by rw [u2_vst]; unfold rg3 cmF cmV; first | (rw [if_pos h56, if_pos h56]; done) | (rw [if_neg h56, if_neg h56, if_pos h65, if_pos h65]; done) | (rw [if_neg h56, if_neg h56, if_neg h65, if_neg h65])) rfl ?_
          refine z_aload_n C dX7_readsGauge_79 rfl ?_
          refine z_gI C (ci := 7) (k := 15) rfl (by decide) rfl (by decide) wl_7 wq_29_17 rfl dX7_readsGauge_80 (by assumption) ?_
          rw [va_up_s]
          refine z_if_lt C (tgt := 90) dX7_readsGauge_83 (by decide) (by first | omega | exact b2i_r) (fun h83 => ?_) (fun h83 => ?_)
          · refine z_iconst C dX7_readsGauge_90 ?_
            exact z_zret2 C hQ rfl (by first | exact Or.inl rfl | exact Or.inr rfl | exact b2i_c | omega) dX7_readsGauge_91 ⟨zr (by first | exact (b2i_t (by omega)).symm | exact (b2i_f (by omega)).symm), rfl, rfl, rfl, rfl, rfl⟩
          · refine z_iconst C dX7_readsGauge_86 ?_
            refine z_goto C (tgt := 91) dX7_readsGauge_87 (by decide) ?_
            exact z_zret2 C hQ rfl (by first | exact Or.inl rfl | exact Or.inr rfl | exact b2i_c | omega) dX7_readsGauge_91 ⟨zr (by first | exact (b2i_t (by omega)).symm | exact (b2i_f (by omega)).symm), rfl, rfl, rfl, rfl, rfl⟩
        · refine z_aload_n C dX7_readsGauge_59 rfl ?_
          refine z_bipush C dX7_readsGauge_60 (by decide) ?_
          refine z_callVd C (ci := 7) rfl (by decide) (by first | assumption | exact hM.1) (mX7_isNext l G (I := I) hM hT.rg2 (w := 44) (by omega)) (cwV 1 C.2.2.2.2.1 gv7_180 rfl rfl rfl hd_X7_isNext ⟨Nat.le_of_ble_eq_true rfl, Nat.le_of_ble_eq_true rfl⟩) rfl rfl (Nat.le_of_ble_eq_true rfl) dX7_readsGauge_62 ⟨Nat.zero_le _, Nat.zero_le _⟩ ?_
          refine z_if_eq C (tgt := 75) dX7_readsGauge_65 (by decide) (by first | omega | exact b2i_r) (fun h65 => ?_) (fun h65 => ?_)
          · refine z_iconst C dX7_readsGauge_75 ?_
            refine z_pI C (ci := 7) (k := 15) rfl (by decide) rfl (by decide) tyX7_ok nmX7 wl_7 wq_29_17 rfl (Or.inl rfl) dX7_readsGauge_76 (by assumption) ?_
            refine z_mem (I' := va_up I o (rg3 (I (o + 5)) f)) (by rw [u2_vst]; unfold rg3 cmF cmV; first | (rw [if_pos h56, if_pos h56]; done) | (rw [if_neg h56, if_neg h56, if_pos h65, if_pos h65]; done) | (rw [if_neg h56, if_neg h56, if_neg h65, if_neg h65])) rfl ?_
            refine z_aload_n C dX7_readsGauge_79 rfl ?_
            refine z_gI C (ci := 7) (k := 15) rfl (by decide) rfl (by decide) wl_7 wq_29_17 rfl dX7_readsGauge_80 (by assumption) ?_
            rw [va_up_s]
            refine z_if_lt C (tgt := 90) dX7_readsGauge_83 (by decide) (by first | omega | exact b2i_r) (fun h83 => ?_) (fun h83 => ?_)
            · refine z_iconst C dX7_readsGauge_90 ?_
              exact z_zret2 C hQ rfl (by first | exact Or.inl rfl | exact Or.inr rfl | exact b2i_c | omega) dX7_readsGauge_91 ⟨zr (by first | exact (b2i_t (by omega)).symm | exact (b2i_f (by omega)).symm), rfl, rfl, rfl, rfl, rfl⟩
            · refine z_iconst C dX7_readsGauge_86 ?_
              refine z_goto C (tgt := 91) dX7_readsGauge_87 (by decide) ?_
              exact z_zret2 C hQ rfl (by first | exact Or.inl rfl | exact Or.inr rfl | exact b2i_c | omega) dX7_readsGauge_91 ⟨zr (by first | exact (b2i_t (by omega)).symm | exact (b2i_f (by omega)).symm), rfl, rfl, rfl, rfl, rfl⟩
          · refine z_aload_n C dX7_readsGauge_68 rfl ?_
            refine z_callVd C (ci := 7) rfl (by decide) (by first | assumption | exact hM.1) (mX7_takeNumber l G (I := I) hM (hT.rg2.nx (w := 44) (by omega))) (cwV 0 C.2.2.2.2.1 gv7_183 rfl rfl rfl hd_X7_takeNumber ⟨Nat.le_of_ble_eq_true rfl, Nat.le_of_ble_eq_true rfl⟩) rfl rfl (Nat.le_of_ble_eq_true rfl) dX7_readsGauge_69 ⟨Nat.zero_le _, Nat.zero_le _⟩ ?_
            refine z_goto C (tgt := 76) dX7_readsGauge_72 (by decide) ?_
            refine z_pI C (ci := 7) (k := 15) rfl (by decide) rfl (by decide) tyX7_ok nmX7 wl_7 wq_29_17 rfl (Or.inl rfl) dX7_readsGauge_76 (by assumption) ?_
            refine z_mem (I' := va_up I o (rg3 (I (o + 5)) f)) (by rw [u2_vst]; unfold rg3 cmF cmV; first | (rw [if_pos h56, if_pos h56]; done) | (rw [if_neg h56, if_neg h56, if_pos h65, if_pos h65]; done) | (rw [if_neg h56, if_neg h56, if_neg h65, if_neg h65])) rfl ?_
            refine z_aload_n C dX7_readsGauge_79 rfl ?_
            refine z_gI C (ci := 7) (k := 15) rfl (by decide) rfl (by decide) wl_7 wq_29_17 rfl dX7_readsGauge_80 (by assumption) ?_
            rw [va_up_s]
            refine z_if_lt C (tgt := 90) dX7_readsGauge_83 (by decide) (by first | omega | exact b2i_r) (fun h83 => ?_) (fun h83 => ?_)
            · refine z_iconst C dX7_readsGauge_90 ?_
              exact z_zret2 C hQ rfl (by first | exact Or.inl rfl | exact Or.inr rfl | exact b2i_c | omega) dX7_readsGauge_91 ⟨zr (by first | exact (b2i_t (by omega)).symm | exact (b2i_f (by omega)).symm), rfl, rfl, rfl, rfl, rfl⟩
            · refine z_iconst C dX7_readsGauge_86 ?_
              refine z_goto C (tgt := 91) dX7_readsGauge_87 (by decide) ?_
              exact z_zret2 C hQ rfl (by first | exact Or.inl rfl | exact Or.inr rfl | exact b2i_c | omega) dX7_readsGauge_91 ⟨zr (by first | exact (b2i_t (by omega)).symm | exact (b2i_f (by omega)).symm), rfl, rfl, rfl, rfl, rfl⟩
      · refine z_aload_n C dX7_readsGauge_40 rfl ?_
        refine z_callVd C (ci := 7) rfl (by decide) (by first | assumption | exact hM.1) (mX7_takeNumber l G (I := I) hM (hT.rg1.nx (w := 44) (by omega))) (cwV 0 C.2.2.2.2.1 gv7_183 rfl rfl rfl hd_X7_takeNumber ⟨Nat.le_of_ble_eq_true rfl, Nat.le_of_ble_eq_true rfl⟩) rfl rfl (Nat.le_of_ble_eq_true rfl) dX7_readsGauge_41 ⟨Nat.zero_le _, Nat.zero_le _⟩ ?_
        refine z_goto C (tgt := 48) dX7_readsGauge_44 (by decide) ?_
        refine z_pI C (ci := 7) (k := 14) rfl (by decide) rfl (by decide) tyX7_ok nmX7 wl_7 wq_29_16 rfl (Or.inl rfl) dX7_readsGauge_48 (by assumption) ?_
        refine z_mem (I' := va_up I o (rg2 (I (o + 5)) f)) (by rw [u2_vst]; unfold rg2 cmF cmV; first | (rw [if_pos h28, if_pos h28]; done) | (rw [if_neg h28, if_neg h28, if_pos h37, if_pos h37]; done) | (rw [if_neg h28, if_neg h28, if_neg h37, if_neg h37])) rfl ?_
        refine z_aload_n C dX7_readsGauge_51 rfl ?_
        refine z_aload_n C dX7_readsGauge_52 rfl ?_
        refine z_gI C (ci := 7) (k := 14) rfl (by decide) rfl (by decide) wl_7 wq_29_16 rfl dX7_readsGauge_53 (by assumption) ?_
        rw [va_up_s]
        refine z_if_lt C (tgt := 75) dX7_readsGauge_56 (by decide) (by first | omega | exact b2i_r) (fun h56 => ?_) (fun h56 => ?_)
        · refine z_iconst C dX7_readsGauge_75 ?_
          refine z_pI C (ci := 7) (k := 15) rfl (by decide) rfl (by decide) tyX7_ok nmX7 wl_7 wq_29_17 rfl (Or.inl rfl) dX7_readsGauge_76 (by assumption) ?_
          refine z_mem (I' := va_up I o (rg3 (I (o + 5)) f)) (by rw [u2_vst]; unfold rg3 cmF cmV; first | (rw [if_pos h56, if_pos h56]; done) | (rw [if_neg h56, if_neg h56, if_pos h65, if_pos h65]; done) | (rw [if_neg h56, if_neg h56, if_neg h65, if_neg h65])) rfl ?_
          refine z_aload_n C dX7_readsGauge_79 rfl ?_
          refine z_gI C (ci := 7) (k := 15) rfl (by decide) rfl (by decide) wl_7 wq_29_17 rfl dX7_readsGauge_80 (by assumption) ?_
          rw [va_up_s]
          refine z_if_lt C (tgt := 90) dX7_readsGauge_83 (by decide) (by first | omega | exact b2i_r) (fun h83 => ?_) (fun h83 => ?_)
          · refine z_iconst C dX7_readsGauge_90 ?_
            exact z_zret2 C hQ rfl (by first | exact Or.inl rfl | exact Or.inr rfl | exact b2i_c | omega) dX7_readsGauge_91 ⟨zr (by first | exact (b2i_t (by omega)).symm | exact (b2i_f (by omega)).symm), rfl, rfl, rfl, rfl, rfl⟩
          · refine z_iconst C dX7_readsGauge_86 ?_
            refine z_goto C (tgt := 91) dX7_readsGauge_87 (by decide) ?_
            exact z_zret2 C hQ rfl (by first | exact Or.inl rfl | exact Or.inr rfl | exact b2i_c | omega) dX7_readsGauge_91 ⟨zr (by first | exact (b2i_t (by omega)).symm | exact (b2i_f (by omega)).symm), rfl, rfl, rfl, rfl, rfl⟩
        · refine z_aload_n C dX7_readsGauge_59 rfl ?_
          refine z_bipush C dX7_readsGauge_60 (by decide) ?_
          refine z_callVd C (ci := 7) rfl (by decide) (by first | assumption | exact hM.1) (mX7_isNext l G (I := I) hM hT.rg2 (w := 44) (by omega)) (cwV 1 C.2.2.2.2.1 gv7_180 rfl rfl rfl hd_X7_isNext ⟨Nat.le_of_ble_eq_true rfl, Nat.le_of_ble_eq_true rfl⟩) rfl rfl (Nat.le_of_ble_eq_true rfl) dX7_readsGauge_62 ⟨Nat.zero_le _, Nat.zero_le _⟩ ?_
          refine z_if_eq C (tgt := 75) dX7_readsGauge_65 (by decide) (by first | omega | exact b2i_r) (fun h65 => ?_) (fun h65 => ?_)
          · refine z_iconst C dX7_readsGauge_75 ?_
            refine z_pI C (ci := 7) (k := 15) rfl (by decide) rfl (by decide) tyX7_ok nmX7 wl_7 wq_29_17 rfl (Or.inl rfl) dX7_readsGauge_76 (by assumption) ?_
            refine z_mem (I' := va_up I o (rg3 (I (o + 5)) f)) (by rw [u2_vst]; unfold rg3 cmF cmV; first | (rw [if_pos h56, if_pos h56]; done) | (rw [if_neg h56, if_neg h56, if_pos h65, if_pos h65]; done) | (rw [if_neg h56, if_neg h56, if_neg h65, if_neg h65])) rfl ?_
            refine z_aload_n C dX7_readsGauge_79 rfl ?_
            refine z_gI C (ci := 7) (k := 15) rfl (by decide) rfl (by decide) wl_7 wq_29_17 rfl dX7_readsGauge_80 (by assumption) ?_
            rw [va_up_s]
            refine z_if_lt C (tgt := 90) dX7_readsGauge_83 (by decide) (by first | omega | exact b2i_r) (fun h83 => ?_) (fun h83 => ?_)
            · refine z_iconst C dX7_readsGauge_90 ?_
              exact z_zret2 C hQ rfl (by first | exact Or.inl rfl | exact Or.inr rfl | exact b2i_c | omega) dX7_readsGauge_91 ⟨zr (by first | exact (b2i_t (by omega)).symm | exact (b2i_f (by omega)).symm), rfl, rfl, rfl, rfl, rfl⟩
            · refine z_iconst C dX7_readsGauge_86 ?_
              refine z_goto C (tgt := 91) dX7_readsGauge_87 (by decide) ?_
              exact z_zret2 C hQ rfl (by first | exact Or.inl rfl | exact Or.inr rfl | exact b2i_c | omega) dX7_readsGauge_91 ⟨zr (by first | exact (b2i_t (by omega)).symm | exact (b2i_f (by omega)).symm), rfl, rfl, rfl, rfl, rfl⟩
          · refine z_aload_n C dX7_readsGauge_68 rfl ?_
            refine z_callVd C (ci := 7) rfl (by decide) (by first | assumption | exact hM.1) (mX7_takeNumber l G (I := I) hM (hT.rg2.nx (w := 44) (by omega))) (cwV 0 C.2.2.2.2.1 gv7_183 rfl rfl rfl hd_X7_takeNumber ⟨Nat.le_of_ble_eq_true rfl, Nat.le_of_ble_eq_true rfl⟩) rfl rfl (Nat.le_of_ble_eq_true rfl) dX7_readsGauge_69 ⟨Nat.zero_le _, Nat.zero_le _⟩ ?_
            refine z_goto C (tgt := 76) dX7_readsGauge_72 (by decide) ?_
            refine z_pI C (ci := 7) (k := 15) rfl (by decide) rfl (by decide) tyX7_ok nmX7 wl_7 wq_29_17 rfl (Or.inl rfl) dX7_readsGauge_76 (by assumption) ?_
            refine z_mem (I' := va_up I o (rg3 (I (o + 5)) f)) (by rw [u2_vst]; unfold rg3 cmF cmV; first | (rw [if_pos h56, if_pos h56]; done) | (rw [if_neg h56, if_neg h56, if_pos h65, if_pos h65]; done) | (rw [if_neg h56, if_neg h56, if_neg h65, if_neg h65])) rfl ?_
            refine z_aload_n C dX7_readsGauge_79 rfl ?_
            refine z_gI C (ci := 7) (k := 15) rfl (by decide) rfl (by decide) wl_7 wq_29_17 rfl dX7_readsGauge_80 (by assumption) ?_
            rw [va_up_s]
            refine z_if_lt C (tgt := 90) dX7_readsGauge_83 (by decide) (by first | omega | exact b2i_r) (fun h83 => ?_) (fun h83 => ?_)
            · refine z_iconst C dX7_readsGauge_90 ?_
              exact z_zret2 C hQ rfl (by first | exact Or.inl rfl | exact Or.inr rfl | exact b2i_c | omega) dX7_readsGauge_91 ⟨zr (by first | exact (b2i_t (by omega)).symm | exact (b2i_f (by omega)).symm), rfl, rfl, rfl, rfl, rfl⟩
            · refine z_iconst C dX7_readsGauge_86 ?_
              refine z_goto C (tgt := 91) dX7_readsGauge_87 (by decide) ?_
              exact z_zret2 C hQ rfl (by first | exact Or.inl rfl | exact Or.inr rfl | exact b2i_c | omega) dX7_readsGauge_91 ⟨zr (by first | exact (b2i_t (by omega)).symm | exact (b2i_f (by omega)).symm), rfl, rfl, rfl, rfl, rfl⟩
  · refine z_iload_n C dX7_readsGauge_17 rfl ?_
    refine z_ineg C dX7_readsGauge_18 ?_
    refine z_goto C (tgt := 23) dX7_readsGauge_19 (by decide) ?_
    refine z_pI C (ci := 7) (k := 13) rfl (by decide) rfl (by decide) tyX7_ok nmX7 wl_7 wq_28_23 rfl (Or.inl rfl) dX7_readsGauge_23 (by assumption) ?_
    refine z_mem (I' := va_up I o (rg1 (I (o + 5)) f)) (by rw [u2_vst]; unfold rg1; first | rw [if_pos h14] | rw [if_neg h14]) rfl ?_
    refine z_aload_n C dX7_readsGauge_26 rfl ?_
    refine z_iload_n C dX7_readsGauge_27 rfl ?_
    refine z_if_lt C (tgt := 47) dX7_readsGauge_28 (by decide) (by first | omega | exact b2i_r) (fun h28 => ?_) (fun h28 => ?_)
    · refine z_iconst C dX7_readsGauge_47 ?_
      refine z_pI C (ci := 7) (k := 14) rfl (by decide) rfl (by decide) tyX7_ok nmX7 wl_7 wq_29_16 rfl (Or.inl rfl) dX7_readsGauge_48 (by assumption) ?_
      refine z_mem (I' := va_up I o (rg2 (I (o + 5)) f)) (by rw [u2_vst]; unfold rg2 cmF cmV; first | (rw [if_pos h28, if_pos h28]; done) | (rw [if_neg h28, if_neg h28, if_pos h37, if_pos h37]; done) | (rw [if_neg h28, if_neg h28, if_neg h37, if_neg h37])) rfl ?_
      refine z_aload_n C dX7_readsGauge_51 rfl ?_
      refine z_aload_n C dX7_readsGauge_52 rfl ?_
      refine z_gI C (ci := 7) (k := 14) rfl (by decide) rfl (by decide) wl_7 wq_29_16 rfl dX7_readsGauge_53 (by assumption) ?_
      rw [va_up_s]
      refine z_if_lt C (tgt := 75) dX7_readsGauge_56 (by decide) (by first | omega | exact b2i_r) (fun h56 => ?_) (fun h56 => ?_)
      · refine z_iconst C dX7_readsGauge_75 ?_
        refine z_pI C (ci := 7) (k := 15) rfl (by decide) rfl (by decide) tyX7_ok nmX7 wl_7 wq_29_17 rfl (Or.inl rfl) dX7_readsGauge_76 (by assumption) ?_
        refine z_mem (I' := va_up I o (rg3 (I (o + 5)) f)) (by rw [u2_vst]; unfold rg3 cmF cmV; first | (rw [if_pos h56, if_pos h56]; done) | (rw [if_neg h56, if_neg h56, if_pos h65, if_pos h65]; done) | (rw [if_neg h56, if_neg h56, if_neg h65, if_neg h65])) rfl ?_
        refine z_aload_n C dX7_readsGauge_79 rfl ?_
        refine z_gI C (ci := 7) (k := 15) rfl (by decide) rfl (by decide) wl_7 wq_29_17 rfl dX7_readsGauge_80 (by assumption) ?_
        rw [va_up_s]
        refine z_if_lt C (tgt := 90) dX7_readsGauge_83 (by decide) (by first | omega | exact b2i_r) (fun h83 => ?_) (fun h83 => ?_)
        · refine z_iconst C dX7_readsGauge_90 ?_
          exact z_zret2 C hQ rfl (by first | exact Or.inl rfl | exact Or.inr rfl | exact b2i_c | omega) dX7_readsGauge_91 ⟨zr (by first | exact (b2i_t (by omega)).symm | exact (b2i_f (by omega)).symm), rfl, rfl, rfl, rfl, rfl⟩
        · refine z_iconst C dX7_readsGauge_86 ?_
          refine z_goto C (tgt := 91) dX7_readsGauge_87 (by decide) ?_
          exact z_zret2 C hQ rfl (by first | exact Or.inl rfl | exact Or.inr rfl | exact b2i_c | omega) dX7_readsGauge_91 ⟨zr (by first | exact (b2i_t (by omega)).symm | exact (b2i_f (by omega)).symm), rfl, rfl, rfl, rfl, rfl⟩
      · refine z_aload_n C dX7_readsGauge_59 rfl ?_
        refine z_bipush C dX7_readsGauge_60 (by decide) ?_
        refine z_callVd C (ci := 7) rfl (by decide) (by first | assumption | exact hM.1) (mX7_isNext l G (I := I) hM hT.rg2 (w := 44) (by omega)) (cwV 1 C.2.2.2.2.1 gv7_180 rfl rfl rfl hd_X7_isNext ⟨Nat.le_of_ble_eq_true rfl, Nat.le_of_ble_eq_true rfl⟩) rfl rfl (Nat.le_of_ble_eq_true rfl) dX7_readsGauge_62 ⟨Nat.zero_le _, Nat.zero_le _⟩ ?_
        refine z_if_eq C (tgt := 75) dX7_readsGauge_65 (by decide) (by first | omega | exact b2i_r) (fun h65 => ?_) (fun h65 => ?_)
        · refine z_iconst C dX7_readsGauge_75 ?_
          refine z_pI C (ci := 7) (k := 15) rfl (by decide) rfl (by decide) tyX7_ok nmX7 wl_7 wq_29_17 rfl (Or.inl rfl) dX7_readsGauge_76 (by assumption) ?_
          refine z_mem (I' := va_up I o (rg3 (I (o + 5)) f)) (by rw [u2_vst]; unfold rg3 cmF cmV; first | (rw [if_pos h56, if_pos h56]; done) | (rw [if_neg h56, if_neg h56, if_pos h65, if_pos h65]; done) | (rw [if_neg h56, if_neg h56, if_neg h65, if_neg h65])) rfl ?_
          refine z_aload_n C dX7_readsGauge_79 rfl ?_
          refine z_gI C (ci := 7) (k := 15) rfl (by decide) rfl (by decide) wl_7 wq_29_17 rfl dX7_readsGauge_80 (by assumption) ?_
          rw [va_up_s]
          refine z_if_lt C (tgt := 90) dX7_readsGauge_83 (by decide) (by first | omega | exact b2i_r) (fun h83 => ?_) (fun h83 => ?_)
          · refine z_iconst C dX7_readsGauge_90 ?_
            exact z_zret2 C hQ rfl (by first | exact Or.inl rfl | exact Or.inr rfl | exact b2i_c | omega) dX7_readsGauge_91 ⟨zr (by first | exact (b2i_t (by omega)).symm | exact (b2i_f (by omega)).symm), rfl, rfl, rfl, rfl, rfl⟩
          · refine z_iconst C dX7_readsGauge_86 ?_
            refine z_goto C (tgt := 91) dX7_readsGauge_87 (by decide) ?_
            exact z_zret2 C hQ rfl (by first | exact Or.inl rfl | exact Or.inr rfl | exact b2i_c | omega) dX7_readsGauge_91 ⟨zr (by first | exact (b2i_t (by omega)).symm | exact (b2i_f (by omega)).symm), rfl, rfl, rfl, rfl, rfl⟩
        · refine z_aload_n C dX7_readsGauge_68 rfl ?_
          refine z_callVd C (ci := 7) rfl (by decide) (by first | assumption | exact hM.1) (mX7_takeNumber l G (I := I) hM (hT.rg2.nx (w := 44) (by omega))) (cwV 0 C.2.2.2.2.1 gv7_183 rfl rfl rfl hd_X7_takeNumber ⟨Nat.le_of_ble_eq_true rfl, Nat.le_of_ble_eq_true rfl⟩) rfl rfl (Nat.le_of_ble_eq_true rfl) dX7_readsGauge_69 ⟨Nat.zero_le _, Nat.zero_le _⟩ ?_
          refine z_goto C (tgt := 76) dX7_readsGauge_72 (by decide) ?_
          refine z_pI C (ci := 7) (k := 15) rfl (by decide) rfl (by decide) tyX7_ok nmX7 wl_7 wq_29_17 rfl (Or.inl rfl) dX7_readsGauge_76 (by assumption) ?_
          refine z_mem (I' := va_up I o (rg3 (I (o + 5)) f)) (by rw [u2_vst]; unfold rg3 cmF cmV; first | (rw [if_pos h56, if_pos h56]; done) | (rw [if_neg h56, if_neg h56, if_pos h65, if_pos h65]; done) | (rw [if_neg h56, if_neg h56, if_neg h65, if_neg h65])) rfl ?_
          refine z_aload_n C dX7_readsGauge_79 rfl ?_
          refine z_gI C (ci := 7) (k := 15) rfl (by decide) rfl (by decide) wl_7 wq_29_17 rfl dX7_readsGauge_80 (by assumption) ?_
          rw [va_up_s]
          refine z_if_lt C (tgt := 90) dX7_readsGauge_83 (by decide) (by first | omega | exact b2i_r) (fun h83 => ?_) (fun h83 => ?_)
          · refine z_iconst C dX7_readsGauge_90 ?_
            exact z_zret2 C hQ rfl (by first | exact Or.inl rfl | exact Or.inr rfl | exact b2i_c | omega) dX7_readsGauge_91 ⟨zr (by first | exact (b2i_t (by omega)).symm | exact (b2i_f (by omega)).symm), rfl, rfl, rfl, rfl, rfl⟩
          · refine z_iconst C dX7_readsGauge_86 ?_
            refine z_goto C (tgt := 91) dX7_readsGauge_87 (by decide) ?_
            exact z_zret2 C hQ rfl (by first | exact Or.inl rfl | exact Or.inr rfl | exact b2i_c | omega) dX7_readsGauge_91 ⟨zr (by first | exact (b2i_t (by omega)).symm | exact (b2i_f (by omega)).symm), rfl, rfl, rfl, rfl, rfl⟩
    · refine z_aload_n C dX7_readsGauge_31 rfl ?_
      refine z_bipush C dX7_readsGauge_32 (by decide) ?_
      refine z_callVd C (ci := 7) rfl (by decide) (by first | assumption | exact hM.1) (mX7_isNext l G (I := I) hM hT.rg1 (w := 44) (by omega)) (cwV 1 C.2.2.2.2.1 gv7_180 rfl rfl rfl hd_X7_isNext ⟨Nat.le_of_ble_eq_true rfl, Nat.le_of_ble_eq_true rfl⟩) rfl rfl (Nat.le_of_ble_eq_true rfl) dX7_readsGauge_34 ⟨Nat.zero_le _, Nat.zero_le _⟩ ?_
      refine z_if_eq C (tgt := 47) dX7_readsGauge_37 (by decide) (by first | omega | exact b2i_r) (fun h37 => ?_) (fun h37 => ?_)
      · refine z_iconst C dX7_readsGauge_47 ?_
        refine z_pI C (ci := 7) (k := 14) rfl (by decide) rfl (by decide) tyX7_ok nmX7 wl_7 wq_29_16 rfl (Or.inl rfl) dX7_readsGauge_48 (by assumption) ?_
        refine z_mem (I' := va_up I o (rg2 (I (o + 5)) f)) (by rw [u2_vst]; unfold rg2 cmF cmV; first | (rw [if_pos h28, if_pos h28]; done) | (rw [if_neg h28, if_neg h28, if_pos h37, if_pos h37]; done) | (rw [if_neg h28, if_neg h28, if_neg h37, if_neg h37])) rfl ?_
        refine z_aload_n C dX7_readsGauge_51 rfl ?_
        refine z_aload_n C dX7_readsGauge_52 rfl ?_
        refine z_gI C (ci := 7) (k := 14) rfl (by decide) rfl (by decide) wl_7 wq_29_16 rfl dX7_readsGauge_53 (by assumption) ?_
        rw [va_up_s]
        refine z_if_lt C (tgt := 75) dX7_readsGauge_56 (by decide) (by first | omega | exact b2i_r) (fun h56 => ?_) (fun h56 => ?_)
        · refine z_iconst C dX7_readsGauge_75 ?_
          refine z_pI C (ci := 7) (k := 15) rfl (by decide) rfl (by decide) tyX7_ok nmX7 wl_7 wq_29_17 rfl (Or.inl rfl) dX7_readsGauge_76 (by assumption) ?_
          refine z_mem (I' := va_up I o (rg3 (I (o + 5)) f)) (by rw [u2_vst]; unfold rg3 cmF cmV; first | (rw [if_pos h56, if_pos h56]; done) | (rw [if_neg h56, if_neg h56, if_pos h65, if_pos h65]; done) | (rw [if_neg h56, if_neg h56, if_neg h65, if_neg h65])) rfl ?_
          refine z_aload_n C dX7_readsGauge_79 rfl ?_
          refine z_gI C (ci := 7) (k := 15) rfl (by decide) rfl (by decide) wl_7 wq_29_17 rfl dX7_readsGauge_80 (by assumption) ?_
          rw [va_up_s]
          refine z_if_lt C (tgt := 90) dX7_readsGauge_83 (by decide) (by first | omega | exact b2i_r) (fun h83 => ?_) (fun h83 => ?_)
          · refine z_iconst C dX7_readsGauge_90 ?_
            exact z_zret2 C hQ rfl (by first | exact Or.inl rfl | exact Or.inr rfl | exact b2i_c | omega) dX7_readsGauge_91 ⟨zr (by first | exact (b2i_t (by omega)).symm | exact (b2i_f (by omega)).symm), rfl, rfl, rfl, rfl, rfl⟩
          · refine z_iconst C dX7_readsGauge_86 ?_
            refine z_goto C (tgt := 91) dX7_readsGauge_87 (by decide) ?_
            exact z_zret2 C hQ rfl (by first | exact Or.inl rfl | exact Or.inr rfl | exact b2i_c | omega) dX7_readsGauge_91 ⟨zr (by first | exact (b2i_t (by omega)).symm | exact (b2i_f (by omega)).symm), rfl, rfl, rfl, rfl, rfl⟩
        · refine z_aload_n C dX7_readsGauge_59 rfl ?_
          refine z_bipush C dX7_readsGauge_60 (by decide) ?_
          refine z_callVd C (ci := 7) rfl (by decide) (by first | assumption | exact hM.1) (mX7_isNext l G (I := I) hM hT.rg2 (w := 44) (by omega)) (cwV 1 C.2.2.2.2.1 gv7_180 rfl rfl rfl hd_X7_isNext ⟨Nat.le_of_ble_eq_true rfl, Nat.le_of_ble_eq_true rfl⟩) rfl rfl (Nat.le_of_ble_eq_true rfl) dX7_readsGauge_62 ⟨Nat.zero_le _, Nat.zero_le _⟩ ?_
          refine z_if_eq C (tgt := 75) dX7_readsGauge_65 (by decide) (by first | omega | exact b2i_r) (fun h65 => ?_) (fun h65 => ?_)
          · refine z_iconst C dX7_readsGauge_75 ?_
            refine z_pI C (ci := 7) (k := 15) rfl (by decide) rfl (by decide) tyX7_ok nmX7 wl_7 wq_29_17 rfl (Or.inl rfl) dX7_readsGauge_76 (by assumption) ?_
            refine z_mem (I' := va_up I o (rg3 (I (o + 5)) f)) (by rw [u2_vst]; unfold rg3 cmF cmV; first | (rw [if_pos h56, if_pos h56]; done) | (rw [if_neg h56, if_neg h56, if_pos h65, if_pos h65]; done) | (rw [if_neg h56, if_neg h56, if_neg h65, if_neg h65])) rfl ?_
            refine z_aload_n C dX7_readsGauge_79 rfl ?_
            refine z_gI C (ci := 7) (k := 15) rfl (by decide) rfl (by decide) wl_7 wq_29_17 rfl dX7_readsGauge_80 (by assumption) ?_
            rw [va_up_s]
            refine z_if_lt C (tgt := 90) dX7_readsGauge_83 (by decide) (by first | omega | exact b2i_r) (fun h83 => ?_) (fun h83 => ?_)
            · refine z_iconst C dX7_readsGauge_90 ?_
              exact z_zret2 C hQ rfl (by first | exact Or.inl rfl | exact Or.inr rfl | exact b2i_c | omega) dX7_readsGauge_91 ⟨zr (by first | exact (b2i_t (by omega)).symm | exact (b2i_f (by omega)).symm), rfl, rfl, rfl, rfl, rfl⟩
            · refine z_iconst C dX7_readsGauge_86 ?_
              refine z_goto C (tgt := 91) dX7_readsGauge_87 (by decide) ?_
              exact z_zret2 C hQ rfl (by first | exact Or.inl rfl | exact Or.inr rfl | exact b2i_c | omega) dX7_readsGauge_91 ⟨zr (by first | exact (b2i_t (by omega)).symm | exact (b2i_f (by omega)).symm), rfl, rfl, rfl, rfl, rfl⟩
          · refine z_aload_n C dX7_readsGauge_68 rfl ?_
            refine z_callVd C (ci := 7) rfl (by decide) (by first | assumption | exact hM.1) (mX7_takeNumber l G (I := I) hM (hT.rg2.nx (w := 44) (by omega))) (cwV 0 C.2.2.2.2.1 gv7_183 rfl rfl rfl hd_X7_takeNumber ⟨Nat.le_of_ble_eq_true rfl, Nat.le_of_ble_eq_true rfl⟩) rfl rfl (Nat.le_of_ble_eq_true rfl) dX7_readsGauge_69 ⟨Nat.zero_le _, Nat.zero_le _⟩ ?_
            refine z_goto C (tgt := 76) dX7_readsGauge_72 (by decide) ?_
            refine z_pI C (ci := 7) (k := 15) rfl (by decide) rfl (by decide) tyX7_ok nmX7 wl_7 wq_29_17 rfl (Or.inl rfl) dX7_readsGauge_76 (by assumption) ?_
            refine z_mem (I' := va_up I o (rg3 (I (o + 5)) f)) (by rw [u2_vst]; unfold rg3 cmF cmV; first | (rw [if_pos h56, if_pos h56]; done) | (rw [if_neg h56, if_neg h56, if_pos h65, if_pos h65]; done) | (rw [if_neg h56, if_neg h56, if_neg h65, if_neg h65])) rfl ?_
            refine z_aload_n C dX7_readsGauge_79 rfl ?_
            refine z_gI C (ci := 7) (k := 15) rfl (by decide) rfl (by decide) wl_7 wq_29_17 rfl dX7_readsGauge_80 (by assumption) ?_
            rw [va_up_s]
            refine z_if_lt C (tgt := 90) dX7_readsGauge_83 (by decide) (by first | omega | exact b2i_r) (fun h83 => ?_) (fun h83 => ?_)
            · refine z_iconst C dX7_readsGauge_90 ?_
              exact z_zret2 C hQ rfl (by first | exact Or.inl rfl | exact Or.inr rfl | exact b2i_c | omega) dX7_readsGauge_91 ⟨zr (by first | exact (b2i_t (by omega)).symm | exact (b2i_f (by omega)).symm), rfl, rfl, rfl, rfl, rfl⟩
            · refine z_iconst C dX7_readsGauge_86 ?_
              refine z_goto C (tgt := 91) dX7_readsGauge_87 (by decide) ?_
              exact z_zret2 C hQ rfl (by first | exact Or.inl rfl | exact Or.inr rfl | exact b2i_c | omega) dX7_readsGauge_91 ⟨zr (by first | exact (b2i_t (by omega)).symm | exact (b2i_f (by omega)).symm), rfl, rfl, rfl, rfl, rfl⟩
      · refine z_aload_n C dX7_readsGauge_40 rfl ?_
        refine z_callVd C (ci := 7) rfl (by decide) (by first | assumption | exact hM.1) (mX7_takeNumber l G (I := I) hM (hT.rg1.nx (w := 44) (by omega))) (cwV 0 C.2.2.2.2.1 gv7_183 rfl rfl rfl hd_X7_takeNumber ⟨Nat.le_of_ble_eq_true rfl, Nat.le_of_ble_eq_true rfl⟩) rfl rfl (Nat.le_of_ble_eq_true rfl) dX7_readsGauge_41 ⟨Nat.zero_le _, Nat.zero_le _⟩ ?_
        refine z_goto C (tgt := 48) dX7_readsGauge_44 (by decide) ?_
        refine z_pI C (ci := 7) (k := 14) rfl (by decide) rfl (by decide) tyX7_ok nmX7 wl_7 wq_29_16 rfl (Or.inl rfl) dX7_readsGauge_48 (by assumption) ?_
        refine z_mem (I' := va_up I o (rg2 (I (o + 5)) f)) (by rw [u2_vst]; unfold rg2 cmF cmV; first | (rw [if_pos h28, if_pos h28]; done) | (rw [if_neg h28, if_neg h28, if_pos h37, if_pos h37]; done) | (rw [if_neg h28, if_neg h28, if_neg h37, if_neg h37])) rfl ?_
        refine z_aload_n C dX7_readsGauge_51 rfl ?_
        refine z_aload_n C dX7_readsGauge_52 rfl ?_
        refine z_gI C (ci := 7) (k := 14) rfl (by decide) rfl (by decide) wl_7 wq_29_16 rfl dX7_readsGauge_53 (by assumption) ?_
        rw [va_up_s]
        refine z_if_lt C (tgt := 75) dX7_readsGauge_56 (by decide) (by first | omega | exact b2i_r) (fun h56 => ?_) (fun h56 => ?_)
        · refine z_iconst C dX7_readsGauge_75 ?_
          refine z_pI C (ci := 7) (k := 15) rfl (by decide) rfl (by decide) tyX7_ok nmX7 wl_7 wq_29_17 rfl (Or.inl rfl) dX7_readsGauge_76 (by assumption) ?_
          refine z_mem (I' := va_up I o (rg3 (I (o + 5)) f)) (by rw [u2_vst]; unfold rg3 cmF cmV; first | (rw [if_pos h56, if_pos h56]; done) | (rw [if_neg h56, if_neg h56, if_pos h65, if_pos h65]; done) | (rw [if_neg h56, if_neg h56, if_neg h65, if_neg h65])) rfl ?_
          refine z_aload_n C dX7_readsGauge_79 rfl ?_
          refine z_gI C (ci := 7) (k := 15) rfl (by decide) rfl (by decide) wl_7 wq_29_17 rfl dX7_readsGauge_80 (by assumption) ?_
          rw [va_up_s]
          refine z_if_lt C (tgt := 90) dX7_readsGauge_83 (by decide) (by first | omega | exact b2i_r) (fun h83 => ?_) (fun h83 => ?_)
          · refine z_iconst C dX7_readsGauge_90 ?_
            exact z_zret2 C hQ rfl (by first | exact Or.inl rfl | exact Or.inr rfl | exact b2i_c | omega) dX7_readsGauge_91 ⟨zr (by first | exact (b2i_t (by omega)).symm | exact (b2i_f (by omega)).symm), rfl, rfl, rfl, rfl, rfl⟩
          · refine z_iconst C dX7_readsGauge_86 ?_
            refine z_goto C (tgt := 91) dX7_readsGauge_87 (by decide) ?_
            exact z_zret2 C hQ rfl (by first | exact Or.inl rfl | exact Or.inr rfl | exact b2i_c | omega) dX7_readsGauge_91 ⟨zr (by first | exact (b2i_t (by omega)).symm | exact (b2i_f (by omega)).symm), rfl, rfl, rfl, rfl, rfl⟩
        · refine z_aload_n C dX7_readsGauge_59 rfl ?_
          refine z_bipush C dX7_readsGauge_60 (by decide) ?_
          refine z_callVd C (ci := 7) rfl (by decide) (by first | assumption | exact hM.1) (mX7_isNext l G (I := I) hM hT.rg2 (w := 44) (by omega)) (cwV 1 C.2.2.2.2.1 gv7_180 rfl rfl rfl hd_X7_isNext ⟨Nat.le_of_ble_eq_true rfl, Nat.le_of_ble_eq_true rfl⟩) rfl rfl (Nat.le_of_ble_eq_true rfl) dX7_readsGauge_62 ⟨Nat.zero_le _, Nat.zero_le _⟩ ?_
          refine z_if_eq C (tgt := 75) dX7_readsGauge_65 (by decide) (by first | omega | exact b2i_r) (fun h65 => ?_) (fun h65 => ?_)
          · refine z_iconst C dX7_readsGauge_75 ?_
            refine z_pI C (ci := 7) (k := 15) rfl (by decide) rfl (by decide) tyX7_ok nmX7 wl_7 wq_29_17 rfl (Or.inl rfl) dX7_readsGauge_76 (by assumption) ?_
            refine z_mem (I' := va_up I o (rg3 (I (o + 5)) f)) (by rw [u2_vst]; unfold rg3 cmF cmV; first | (rw [if_pos h56, if_pos h56]; done) | (rw [if_neg h56, if_neg h56, if_pos h65, if_pos h65]; done) | (rw [if_neg h56, if_neg h56, if_neg h65, if_neg h65])) rfl ?_
            refine z_aload_n C dX7_readsGauge_79 rfl ?_
            refine z_gI C (ci := 7) (k := 15) rfl (by decide) rfl (by decide) wl_7 wq_29_17 rfl dX7_readsGauge_80 (by assumption) ?_
            rw [va_up_s]
            refine z_if_lt C (tgt := 90) dX7_readsGauge_83 (by decide) (by first | omega | exact b2i_r) (fun h83 => ?_) (fun h83 => ?_)
            · refine z_iconst C dX7_readsGauge_90 ?_
              exact z_zret2 C hQ rfl (by first | exact Or.inl rfl | exact Or.inr rfl | exact b2i_c | omega) dX7_readsGauge_91 ⟨zr (by first | exact (b2i_t (by omega)).symm | exact (b2i_f (by omega)).symm), rfl, rfl, rfl, rfl, rfl⟩
            · refine z_iconst C dX7_readsGauge_86 ?_
              refine z_goto C (tgt := 91) dX7_readsGauge_87 (by decide) ?_
              exact z_zret2 C hQ rfl (by first | exact Or.inl rfl | exact Or.inr rfl | exact b2i_c | omega) dX7_readsGauge_91 ⟨zr (by first | exact (b2i_t (by omega)).symm | exact (b2i_f (by omega)).symm), rfl, rfl, rfl, rfl, rfl⟩
          · refine z_aload_n C dX7_readsGauge_68 rfl ?_
            refine z_callVd C (ci := 7) rfl (by decide) (by first | assumption | exact hM.1) (mX7_takeNumber l G (I := I) hM (hT.rg2.nx (w := 44) (by omega))) (cwV 0 C.2.2.2.2.1 gv7_183 rfl rfl rfl hd_X7_takeNumber ⟨Nat.le_of_ble_eq_true rfl, Nat.le_of_ble_eq_true rfl⟩) rfl rfl (Nat.le_of_ble_eq_true rfl) dX7_readsGauge_69 ⟨Nat.zero_le _, Nat.zero_le _⟩ ?_
            refine z_goto C (tgt := 76) dX7_readsGauge_72 (by decide) ?_
            refine z_pI C (ci := 7) (k := 15) rfl (by decide) rfl (by decide) tyX7_ok nmX7 wl_7 wq_29_17 rfl (Or.inl rfl) dX7_readsGauge_76 (by assumption) ?_
            refine z_mem (I' := va_up I o (rg3 (I (o + 5)) f)) (by rw [u2_vst]; unfold rg3 cmF cmV; first | (rw [if_pos h56, if_pos h56]; done) | (rw [if_neg h56, if_neg h56, if_pos h65, if_pos h65]; done) | (rw [if_neg h56, if_neg h56, if_neg h65, if_neg h65])) rfl ?_
            refine z_aload_n C dX7_readsGauge_79 rfl ?_
            refine z_gI C (ci := 7) (k := 15) rfl (by decide) rfl (by decide) wl_7 wq_29_17 rfl dX7_readsGauge_80 (by assumption) ?_
            rw [va_up_s]
            refine z_if_lt C (tgt := 90) dX7_readsGauge_83 (by decide) (by first | omega | exact b2i_r) (fun h83 => ?_) (fun h83 => ?_)
            · refine z_iconst C dX7_readsGauge_90 ?_
              exact z_zret2 C hQ rfl (by first | exact Or.inl rfl | exact Or.inr rfl | exact b2i_c | omega) dX7_readsGauge_91 ⟨zr (by first | exact (b2i_t (by omega)).symm | exact (b2i_f (by omega)).symm), rfl, rfl, rfl, rfl, rfl⟩
            · refine z_iconst C dX7_readsGauge_86 ?_
              refine z_goto C (tgt := 91) dX7_readsGauge_87 (by decide) ?_
              exact z_zret2 C hQ rfl (by first | exact Or.inl rfl | exact Or.inr rfl | exact b2i_c | omega) dX7_readsGauge_91 ⟨zr (by first | exact (b2i_t (by omega)).symm | exact (b2i_f (by omega)).symm), rfl, rfl, rfl, rfl, rfl⟩

set_option maxHeartbeats 4000000 in
set_option maxRecDepth 100000 in
theorem mX7_readsOrder (l : Launch) (G : GG) {z : Nat} {K N : Nat → Nat} {I : MI} {R : MR} {o : Nat} (hM : ShM G z K N R o) {f : Nat → Int} (hT : TOk (I (o + 5)) f)  : Cod l G yX7_readsOrder (Cond.code yX7_readsOrder cX7_readsOrder 1 (some .boolean) :: wsL_law) ⟨4, 0, 0, 86⟩ [.ref o] z K N (va_up I o f) R (some (.int (zI (roB (I (o + 5)) f)))) (va_up I o (roF (I (o + 5)) f)) R := by
  refine Con.of (own := RX7) (cc := cX7_readsOrder) (maxL := 1) (ret := (some .boolean)) (by decide +kernel) rfl rfl (Nat.le_of_ble_eq_true rfl) (by decide) rfl ?_
  intro p e9 s mt args below meth c Q hin hQ C
  obtain ⟨ho, ⟨r0, r1, r3, r4, r5, r7, r8⟩, ⟨k1, k2, k3, k4, k5, k6, k7⟩, n1, n2, n3, n4, n5, n6, n7⟩ := id hM
  have hT9 := id hT
  obtain ⟨t6, tP, t11⟩ := hT9
  have hch := chF_rng hT t11.1
  have h12 : ro2 (I (o + 5)) f 12 = chF (I (o + 5)) f (f 11) := by unfold ro2 atS; rw [st1_n (by omega), st1_s]
  have e0 := ro2_11 (I (o + 5)) f
  refine z_aload_n C dX7_readsOrder_0 rfl ?_
  refine z_aload_n C dX7_readsOrder_1 rfl ?_
  refine z_aload_n C dX7_readsOrder_2 rfl ?_
  refine z_gI C (ci := 7) (k := 11) rfl (by decide) rfl (by decide) wl_7 wq_28_17 rfl dX7_readsOrder_3 (by assumption) ?_
  rw [va_up_s]
  refine z_callVd C (ci := 7) rfl (by decide) (by first | assumption | exact hM.1) (mX7_character l G hM hT (by omega)) (cwV 1 C.2.2.2.2.1 gv7_174 rfl rfl rfl hd_X7_character ⟨Nat.le_of_ble_eq_true rfl, Nat.le_of_ble_eq_true rfl⟩) rfl rfl (Nat.le_of_ble_eq_true rfl) dX7_readsOrder_6 ⟨Nat.zero_le _, Nat.zero_le _⟩ ?_
  refine z_pI C (ci := 7) (k := 12) rfl (by decide) rfl (by decide) tyX7_ok nmX7 wl_7 wq_28_22 rfl (Or.inl rfl) dX7_readsOrder_9 (by assumption) ?_
  rw [u2_vst]
  refine z_aload_n C dX7_readsOrder_12 rfl ?_
  refine z_dup C dX7_readsOrder_13 rfl ?_
  refine z_gI C (ci := 7) (k := 11) rfl (by decide) rfl (by decide) wl_7 wq_28_17 rfl dX7_readsOrder_14 (by assumption) ?_
  rw [va_up_s]
  refine z_iconst C dX7_readsOrder_17 ?_
  refine z_iadd C dX7_readsOrder_18 ?_
  refine z_pI C (ci := 7) (k := 11) rfl (by decide) rfl (by decide) tyX7_ok nmX7 wl_7 wq_28_17 rfl (Or.inl rfl) dX7_readsOrder_19 (by assumption) ?_
  refine z_mem (I' := va_up I o (ro2 (I (o + 5)) f)) (by rw [u2_vst]; rfl) rfl ?_
  refine z_aload_n C dX7_readsOrder_22 rfl ?_
  refine z_gI C (ci := 7) (k := 12) rfl (by decide) rfl (by decide) wl_7 wq_28_22 rfl dX7_readsOrder_23 (by assumption) ?_
  rw [va_up_s, h12]
  by_cases hs26 : ¬ chF (I (o + 5)) f (f 11) = 43 ∧ ¬ chF (I (o + 5)) f (f 11) = 45 ∧ ¬ chF (I (o + 5)) f (f 11) = 97 ∧ ¬ chF (I (o + 5)) f (f 11) = 103 ∧ ¬ chF (I (o + 5)) f (f 11) = 109 ∧ ¬ chF (I (o + 5)) f (f 11) = 116
  · refine z_look C (off := 105) (tgt := 131) dX7_readsOrder_26 (by decide) (by omega) (lk_out6 (by omega)) (by decide) ?_
    refine z_aload_n C dX7_readsOrder_131 rfl ?_
    refine z_dup C dX7_readsOrder_132 rfl ?_
    refine z_gI C (ci := 7) (k := 11) rfl (by decide) rfl (by decide) wl_7 wq_28_17 rfl dX7_readsOrder_133 (by assumption) ?_
    rw [va_up_s]
    refine z_iconst C dX7_readsOrder_136 ?_
    refine z_isub C dX7_readsOrder_137 ?_
    refine z_pI C (ci := 7) (k := 11) rfl (by decide) rfl (by decide) tyX7_ok nmX7 wl_7 wq_28_17 rfl (Or.inl rfl) dX7_readsOrder_138 (by assumption) ?_
    refine z_iconst C dX7_readsOrder_141 ?_
    exact z_zret2 C hQ rfl (by first | exact Or.inl rfl | exact Or.inr rfl | exact b2i_c | omega) dX7_readsOrder_142 ⟨zr (by unfold roB; first | (rw [if_pos hno]; first | exact (b2i_t (by omega)).symm | exact (b2i_f (by omega)).symm) | (rw [if_neg (by omega), if_pos hv]; first | exact (b2i_t (by omega)).symm | exact (b2i_f (by omega)).symm) | (rw [if_neg (by omega), if_neg (by omega), if_pos hv]; done) | (rw [if_neg (by omega), if_neg (by omega), if_neg (by omega)])), rfl, rfl, rfl, by unfold roF; first | (rw [if_pos hno]; done) | (rw [if_neg (by omega), if_pos hv]; done) | (rw [if_neg (by omega), if_neg (by omega), if_pos hv]; done) | (rw [if_neg (by omega), if_neg (by omega), if_neg (by omega), u2_vst]), rfl⟩
  · rcases (show chF (I (o + 5)) f (f 11) = 43 ∨ chF (I (o + 5)) f (f 11) = 45 ∨ chF (I (o + 5)) f (f 11) = 97 ∨ chF (I (o + 5)) f (f 11) = 103 ∨ chF (I (o + 5)) f (f 11) = 109 ∨ chF (I (o + 5)) f (f 11) = 116 by omega) with hv | hv | hv | hv | hv | hv
    · refine z_look C (off := 58) (tgt := 84) dX7_readsOrder_26 (by decide) (by omega) (by rw [hv]; rfl) (by decide) ?_
      have hT2 := hT.r2 (by omega)
      have e1 := tnV_rng hT2
      have hno : isNo (chF (I (o + 5)) f (f 11)) := by omega
      refine z_aload_n C dX7_readsOrder_84 rfl ?_
      refine z_aload_n C dX7_readsOrder_85 rfl ?_
      refine z_callVd C (ci := 7) rfl (by decide) (by first | assumption | exact hM.1) (mX7_takeNumber l G (I := I) hM hT2) (cwV 0 C.2.2.2.2.1 gv7_183 rfl rfl rfl hd_X7_takeNumber ⟨Nat.le_of_ble_eq_true rfl, Nat.le_of_ble_eq_true rfl⟩) rfl rfl (Nat.le_of_ble_eq_true rfl) dX7_readsOrder_86 ⟨Nat.zero_le _, Nat.zero_le _⟩ ?_
      refine z_pI C (ci := 7) (k := 13) rfl (by decide) rfl (by decide) tyX7_ok nmX7 wl_7 wq_28_23 rfl (Or.inl rfl) dX7_readsOrder_89 (by assumption) ?_
      rw [u2_vst]
      refine z_aload_n C dX7_readsOrder_92 rfl ?_
      refine z_gI C (ci := 7) (k := 13) rfl (by decide) rfl (by decide) wl_7 wq_28_23 rfl dX7_readsOrder_93 (by assumption) ?_
      rw [va_up_s, st1_s]
      refine z_if_lt C (tgt := 103) dX7_readsOrder_96 (by decide) (by first | omega | exact b2i_r) (fun h96 => ?_) (fun h96 => ?_)
      · refine z_iconst C dX7_readsOrder_103 ?_
        exact z_zret2 C hQ rfl (by first | exact Or.inl rfl | exact Or.inr rfl | exact b2i_c | omega) dX7_readsOrder_104 ⟨zr (by unfold roB; first | (rw [if_pos hno]; first | exact (b2i_t (by omega)).symm | exact (b2i_f (by omega)).symm) | (rw [if_neg (by omega), if_pos hv]; first | exact (b2i_t (by omega)).symm | exact (b2i_f (by omega)).symm) | (rw [if_neg (by omega), if_neg (by omega), if_pos hv]; done) | (rw [if_neg (by omega), if_neg (by omega), if_neg (by omega)])), rfl, rfl, rfl, by unfold roF; first | (rw [if_pos hno]; done) | (rw [if_neg (by omega), if_pos hv]; done) | (rw [if_neg (by omega), if_neg (by omega), if_pos hv]; done) | (rw [if_neg (by omega), if_neg (by omega), if_neg (by omega), u2_vst]), rfl⟩
      · refine z_iconst C dX7_readsOrder_99 ?_
        refine z_goto C (tgt := 104) dX7_readsOrder_100 (by decide) ?_
        exact z_zret2 C hQ rfl (by first | exact Or.inl rfl | exact Or.inr rfl | exact b2i_c | omega) dX7_readsOrder_104 ⟨zr (by unfold roB; first | (rw [if_pos hno]; first | exact (b2i_t (by omega)).symm | exact (b2i_f (by omega)).symm) | (rw [if_neg (by omega), if_pos hv]; first | exact (b2i_t (by omega)).symm | exact (b2i_f (by omega)).symm) | (rw [if_neg (by omega), if_neg (by omega), if_pos hv]; done) | (rw [if_neg (by omega), if_neg (by omega), if_neg (by omega)])), rfl, rfl, rfl, by unfold roF; first | (rw [if_pos hno]; done) | (rw [if_neg (by omega), if_pos hv]; done) | (rw [if_neg (by omega), if_neg (by omega), if_pos hv]; done) | (rw [if_neg (by omega), if_neg (by omega), if_neg (by omega), u2_vst]), rfl⟩
    · refine z_look C (off := 58) (tgt := 84) dX7_readsOrder_26 (by decide) (by omega) (by rw [hv]; rfl) (by decide) ?_
      have hT2 := hT.r2 (by omega)
      have e1 := tnV_rng hT2
      have hno : isNo (chF (I (o + 5)) f (f 11)) := by omega
      refine z_aload_n C dX7_readsOrder_84 rfl ?_
      refine z_aload_n C dX7_readsOrder_85 rfl ?_
      refine z_callVd C (ci := 7) rfl (by decide) (by first | assumption | exact hM.1) (mX7_takeNumber l G (I := I) hM hT2) (cwV 0 C.2.2.2.2.1 gv7_183 rfl rfl rfl hd_X7_takeNumber ⟨Nat.le_of_ble_eq_true rfl, Nat.le_of_ble_eq_true rfl⟩) rfl rfl (Nat.le_of_ble_eq_true rfl) dX7_readsOrder_86 ⟨Nat.zero_le _, Nat.zero_le _⟩ ?_
      refine z_pI C (ci := 7) (k := 13) rfl (by decide) rfl (by decide) tyX7_ok nmX7 wl_7 wq_28_23 rfl (Or.inl rfl) dX7_readsOrder_89 (by assumption) ?_
      rw [u2_vst]
      refine z_aload_n C dX7_readsOrder_92 rfl ?_
      refine z_gI C (ci := 7) (k := 13) rfl (by decide) rfl (by decide) wl_7 wq_28_23 rfl dX7_readsOrder_93 (by assumption) ?_
      rw [va_up_s, st1_s]
      refine z_if_lt C (tgt := 103) dX7_readsOrder_96 (by decide) (by first | omega | exact b2i_r) (fun h96 => ?_) (fun h96 => ?_)
      · refine z_iconst C dX7_readsOrder_103 ?_
        exact z_zret2 C hQ rfl (by first | exact Or.inl rfl | exact Or.inr rfl | exact b2i_c | omega) dX7_readsOrder_104 ⟨zr (by unfold roB; first | (rw [if_pos hno]; first | exact (b2i_t (by omega)).symm | exact (b2i_f (by omega)).symm) | (rw [if_neg (by omega), if_pos hv]; first | exact (b2i_t (by omega)).symm | exact (b2i_f (by omega)).symm) | (rw [if_neg (by omega), if_neg (by omega), if_pos hv]; done) | (rw [if_neg (by omega), if_neg (by omega), if_neg (by omega)])), rfl, rfl, rfl, by unfold roF; first | (rw [if_pos hno]; done) | (rw [if_neg (by omega), if_pos hv]; done) | (rw [if_neg (by omega), if_neg (by omega), if_pos hv]; done) | (rw [if_neg (by omega), if_neg (by omega), if_neg (by omega), u2_vst]), rfl⟩
      · refine z_iconst C dX7_readsOrder_99 ?_
        refine z_goto C (tgt := 104) dX7_readsOrder_100 (by decide) ?_
        exact z_zret2 C hQ rfl (by first | exact Or.inl rfl | exact Or.inr rfl | exact b2i_c | omega) dX7_readsOrder_104 ⟨zr (by unfold roB; first | (rw [if_pos hno]; first | exact (b2i_t (by omega)).symm | exact (b2i_f (by omega)).symm) | (rw [if_neg (by omega), if_pos hv]; first | exact (b2i_t (by omega)).symm | exact (b2i_f (by omega)).symm) | (rw [if_neg (by omega), if_neg (by omega), if_pos hv]; done) | (rw [if_neg (by omega), if_neg (by omega), if_neg (by omega)])), rfl, rfl, rfl, by unfold roF; first | (rw [if_pos hno]; done) | (rw [if_neg (by omega), if_pos hv]; done) | (rw [if_neg (by omega), if_neg (by omega), if_pos hv]; done) | (rw [if_neg (by omega), if_neg (by omega), if_neg (by omega), u2_vst]), rfl⟩
    · refine z_look C (off := 79) (tgt := 105) dX7_readsOrder_26 (by decide) (by omega) (by rw [hv]; rfl) (by decide) ?_
      have hT2 := hT.r2 (by omega)
      have e1 := tdV_rng (I (o + 5)) (ro2 (I (o + 5)) f)
      refine z_aload_n C dX7_readsOrder_105 rfl ?_
      refine z_aload_n C dX7_readsOrder_106 rfl ?_
      refine z_callVd C (ci := 7) rfl (by decide) (by first | assumption | exact hM.1) (mX7_takeDigit l G (I := I) hM hT2) (cwV 0 C.2.2.2.2.1 gv7_177 rfl rfl rfl hd_X7_takeDigit ⟨Nat.le_of_ble_eq_true rfl, Nat.le_of_ble_eq_true rfl⟩) rfl rfl (Nat.le_of_ble_eq_true rfl) dX7_readsOrder_107 ⟨Nat.zero_le _, Nat.zero_le _⟩ ?_
      refine z_pI C (ci := 7) (k := 13) rfl (by decide) rfl (by decide) tyX7_ok nmX7 wl_7 wq_28_23 rfl (Or.inl rfl) dX7_readsOrder_110 (by assumption) ?_
      rw [u2_vst]
      refine z_aload_n C dX7_readsOrder_113 rfl ?_
      refine z_gI C (ci := 7) (k := 13) rfl (by decide) rfl (by decide) wl_7 wq_28_23 rfl dX7_readsOrder_114 (by assumption) ?_
      rw [va_up_s, st1_s]
      refine z_if_lt C (tgt := 124) dX7_readsOrder_117 (by decide) (by first | omega | exact b2i_r) (fun h117 => ?_) (fun h117 => ?_)
      · refine z_iconst C dX7_readsOrder_124 ?_
        exact z_zret2 C hQ rfl (by first | exact Or.inl rfl | exact Or.inr rfl | exact b2i_c | omega) dX7_readsOrder_125 ⟨zr (by unfold roB; first | (rw [if_pos hno]; first | exact (b2i_t (by omega)).symm | exact (b2i_f (by omega)).symm) | (rw [if_neg (by omega), if_pos hv]; first | exact (b2i_t (by omega)).symm | exact (b2i_f (by omega)).symm) | (rw [if_neg (by omega), if_neg (by omega), if_pos hv]; done) | (rw [if_neg (by omega), if_neg (by omega), if_neg (by omega)])), rfl, rfl, rfl, by unfold roF; first | (rw [if_pos hno]; done) | (rw [if_neg (by omega), if_pos hv]; done) | (rw [if_neg (by omega), if_neg (by omega), if_pos hv]; done) | (rw [if_neg (by omega), if_neg (by omega), if_neg (by omega), u2_vst]), rfl⟩
      · refine z_iconst C dX7_readsOrder_120 ?_
        refine z_goto C (tgt := 125) dX7_readsOrder_121 (by decide) ?_
        exact z_zret2 C hQ rfl (by first | exact Or.inl rfl | exact Or.inr rfl | exact b2i_c | omega) dX7_readsOrder_125 ⟨zr (by unfold roB; first | (rw [if_pos hno]; first | exact (b2i_t (by omega)).symm | exact (b2i_f (by omega)).symm) | (rw [if_neg (by omega), if_pos hv]; first | exact (b2i_t (by omega)).symm | exact (b2i_f (by omega)).symm) | (rw [if_neg (by omega), if_neg (by omega), if_pos hv]; done) | (rw [if_neg (by omega), if_neg (by omega), if_neg (by omega)])), rfl, rfl, rfl, by unfold roF; first | (rw [if_pos hno]; done) | (rw [if_neg (by omega), if_pos hv]; done) | (rw [if_neg (by omega), if_neg (by omega), if_pos hv]; done) | (rw [if_neg (by omega), if_neg (by omega), if_neg (by omega), u2_vst]), rfl⟩
    · refine z_look C (off := 100) (tgt := 126) dX7_readsOrder_26 (by decide) (by omega) (by rw [hv]; rfl) (by decide) ?_
      have hT2 := hT.r2 (by omega)
      refine z_aload_n C dX7_readsOrder_126 rfl ?_
      refine z_callVd C (ci := 7) rfl (by decide) (by first | assumption | exact hM.1) (mX7_readsGauge l G (I := I) hM hT2) (cwV 0 C.2.2.2.2.1 gv7_198 rfl rfl rfl hd_X7_readsGauge ⟨Nat.le_of_ble_eq_true rfl, Nat.le_of_ble_eq_true rfl⟩) rfl rfl (Nat.le_of_ble_eq_true rfl) dX7_readsOrder_127 ⟨Nat.zero_le _, Nat.zero_le _⟩ ?_
      exact z_zret2 C hQ rfl (by first | exact Or.inl rfl | exact Or.inr rfl | exact b2i_c | omega) dX7_readsOrder_130 ⟨zr (by unfold roB; first | (rw [if_pos hno]; first | exact (b2i_t (by omega)).symm | exact (b2i_f (by omega)).symm) | (rw [if_neg (by omega), if_pos hv]; first | exact (b2i_t (by omega)).symm | exact (b2i_f (by omega)).symm) | (rw [if_neg (by omega), if_neg (by omega), if_pos hv]; done) | (rw [if_neg (by omega), if_neg (by omega), if_neg (by omega)])), rfl, rfl, rfl, by unfold roF; first | (rw [if_pos hno]; done) | (rw [if_neg (by omega), if_pos hv]; done) | (rw [if_neg (by omega), if_neg (by omega), if_pos hv]; done) | (rw [if_neg (by omega), if_neg (by omega), if_neg (by omega), u2_vst]), rfl⟩
    · refine z_look C (off := 58) (tgt := 84) dX7_readsOrder_26 (by decide) (by omega) (by rw [hv]; rfl) (by decide) ?_
      have hT2 := hT.r2 (by omega)
      have e1 := tnV_rng hT2
      have hno : isNo (chF (I (o + 5)) f (f 11)) := by omega
      refine z_aload_n C dX7_readsOrder_84 rfl ?_
      refine z_aload_n C dX7_readsOrder_85 rfl ?_
      refine z_callVd C (ci := 7) rfl (by decide) (by first | assumption | exact hM.1) (mX7_takeNumber l G (I := I) hM hT2) (cwV 0 C.2.2.2.2.1 gv7_183 rfl rfl rfl hd_X7_takeNumber ⟨Nat.le_of_ble_eq_true rfl, Nat.le_of_ble_eq_true rfl⟩) rfl rfl (Nat.le_of_ble_eq_true rfl) dX7_readsOrder_86 ⟨Nat.zero_le _, Nat.zero_le _⟩ ?_
      refine z_pI C (ci := 7) (k := 13) rfl (by decide) rfl (by decide) tyX7_ok nmX7 wl_7 wq_28_23 rfl (Or.inl rfl) dX7_readsOrder_89 (by assumption) ?_
      rw [u2_vst]
      refine z_aload_n C dX7_readsOrder_92 rfl ?_
      refine z_gI C (ci := 7) (k := 13) rfl (by decide) rfl (by decide) wl_7 wq_28_23 rfl dX7_readsOrder_93 (by assumption) ?_
      rw [va_up_s, st1_s]
      refine z_if_lt C (tgt := 103) dX7_readsOrder_96 (by decide) (by first | omega | exact b2i_r) (fun h96 => ?_) (fun h96 => ?_)
      · refine z_iconst C dX7_readsOrder_103 ?_
        exact z_zret2 C hQ rfl (by first | exact Or.inl rfl | exact Or.inr rfl | exact b2i_c | omega) dX7_readsOrder_104 ⟨zr (by unfold roB; first | (rw [if_pos hno]; first | exact (b2i_t (by omega)).symm | exact (b2i_f (by omega)).symm) | (rw [if_neg (by omega), if_pos hv]; first | exact (b2i_t (by omega)).symm | exact (b2i_f (by omega)).symm) | (rw [if_neg (by omega), if_neg (by omega), if_pos hv]; done) | (rw [if_neg (by omega), if_neg (by omega), if_neg (by omega)])), rfl, rfl, rfl, by unfold roF; first | (rw [if_pos hno]; done) | (rw [if_neg (by omega), if_pos hv]; done) | (rw [if_neg (by omega), if_neg (by omega), if_pos hv]; done) | (rw [if_neg (by omega), if_neg (by omega), if_neg (by omega), u2_vst]), rfl⟩
      · refine z_iconst C dX7_readsOrder_99 ?_
        refine z_goto C (tgt := 104) dX7_readsOrder_100 (by decide) ?_
        exact z_zret2 C hQ rfl (by first | exact Or.inl rfl | exact Or.inr rfl | exact b2i_c | omega) dX7_readsOrder_104 ⟨zr (by unfold roB; first | (rw [if_pos hno]; first | exact (b2i_t (by omega)).symm | exact (b2i_f (by omega)).symm) | (rw [if_neg (by omega), if_pos hv]; first | exact (b2i_t (by omega)).symm | exact (b2i_f (by omega)).symm) | (rw [if_neg (by omega), if_neg (by omega), if_pos hv]; done) | (rw [if_neg (by omega), if_neg (by omega), if_neg (by omega)])), rfl, rfl, rfl, by unfold roF; first | (rw [if_pos hno]; done) | (rw [if_neg (by omega), if_pos hv]; done) | (rw [if_neg (by omega), if_neg (by omega), if_pos hv]; done) | (rw [if_neg (by omega), if_neg (by omega), if_neg (by omega), u2_vst]), rfl⟩
    · refine z_look C (off := 58) (tgt := 84) dX7_readsOrder_26 (by decide) (by omega) (by rw [hv]; rfl) (by decide) ?_
      have hT2 := hT.r2 (by omega)
      have e1 := tnV_rng hT2
      have hno : isNo (chF (I (o + 5)) f (f 11)) := by omega
      refine z_aload_n C dX7_readsOrder_84 rfl ?_
      refine z_aload_n C dX7_readsOrder_85 rfl ?_
      refine z_callVd C (ci := 7) rfl (by decide) (by first | assumption | exact hM.1) (mX7_takeNumber l G (I := I) hM hT2) (cwV 0 C.2.2.2.2.1 gv7_183 rfl rfl rfl hd_X7_takeNumber ⟨Nat.le_of_ble_eq_true rfl, Nat.le_of_ble_eq_true rfl⟩) rfl rfl (Nat.le_of_ble_eq_true rfl) dX7_readsOrder_86 ⟨Nat.zero_le _, Nat.zero_le _⟩ ?_
      refine z_pI C (ci := 7) (k := 13) rfl (by decide) rfl (by decide) tyX7_ok nmX7 wl_7 wq_28_23 rfl (Or.inl rfl) dX7_readsOrder_89 (by assumption) ?_
      rw [u2_vst]
      refine z_aload_n C dX7_readsOrder_92 rfl ?_
      refine z_gI C (ci := 7) (k := 13) rfl (by decide) rfl (by decide) wl_7 wq_28_23 rfl dX7_readsOrder_93 (by assumption) ?_
      rw [va_up_s, st1_s]
      refine z_if_lt C (tgt := 103) dX7_readsOrder_96 (by decide) (by first | omega | exact b2i_r) (fun h96 => ?_) (fun h96 => ?_)
      · refine z_iconst C dX7_readsOrder_103 ?_
        exact z_zret2 C hQ rfl (by first | exact Or.inl rfl | exact Or.inr rfl | exact b2i_c | omega) dX7_readsOrder_104 ⟨zr (by unfold roB; first | (rw [if_pos hno]; first | exact (b2i_t (by omega)).symm | exact (b2i_f (by omega)).symm) | (rw [if_neg (by omega), if_pos hv]; first | exact (b2i_t (by omega)).symm | exact (b2i_f (by omega)).symm) | (rw [if_neg (by omega), if_neg (by omega), if_pos hv]; done) | (rw [if_neg (by omega), if_neg (by omega), if_neg (by omega)])), rfl, rfl, rfl, by unfold roF; first | (rw [if_pos hno]; done) | (rw [if_neg (by omega), if_pos hv]; done) | (rw [if_neg (by omega), if_neg (by omega), if_pos hv]; done) | (rw [if_neg (by omega), if_neg (by omega), if_neg (by omega), u2_vst]), rfl⟩
      · refine z_iconst C dX7_readsOrder_99 ?_
        refine z_goto C (tgt := 104) dX7_readsOrder_100 (by decide) ?_
        exact z_zret2 C hQ rfl (by first | exact Or.inl rfl | exact Or.inr rfl | exact b2i_c | omega) dX7_readsOrder_104 ⟨zr (by unfold roB; first | (rw [if_pos hno]; first | exact (b2i_t (by omega)).symm | exact (b2i_f (by omega)).symm) | (rw [if_neg (by omega), if_pos hv]; first | exact (b2i_t (by omega)).symm | exact (b2i_f (by omega)).symm) | (rw [if_neg (by omega), if_neg (by omega), if_pos hv]; done) | (rw [if_neg (by omega), if_neg (by omega), if_neg (by omega)])), rfl, rfl, rfl, by unfold roF; first | (rw [if_pos hno]; done) | (rw [if_neg (by omega), if_pos hv]; done) | (rw [if_neg (by omega), if_neg (by omega), if_pos hv]; done) | (rw [if_neg (by omega), if_neg (by omega), if_neg (by omega), u2_vst]), rfl⟩

set_option maxHeartbeats 4000000 in
set_option maxRecDepth 100000 in
theorem mX7_findFault (l : Launch) (G : GG) {z : Nat} {K N : Nat → Nat} {I : MI} {R : MR} {o : Nat} (hM : ShM G z K N R o) {f : Nat → Int} (hT : TOk (I (o + 5)) f)  : Cod l G yX7_findFault (Cond.code yX7_findFault cX7_findFault 1 (some .int) :: wsL_law) ⟨5, 0, 0, 106⟩ [.ref o] z K N (va_up I o f) R (some (.int (zI (ffV (I (o + 5)) f)))) (va_up I o (ffF (I (o + 5)) f)) R := by
  refine Con.of (own := RX7) (cc := cX7_findFault) (maxL := 1) (ret := (some .int)) (by decide +kernel) rfl rfl (Nat.le_of_ble_eq_true rfl) (by decide) rfl ?_
  intro p e9 s mt args below meth c Q hin hQ C
  obtain ⟨ho, ⟨r0, r1, r3, r4, r5, r7, r8⟩, ⟨k1, k2, k3, k4, k5, k6, k7⟩, n1, n2, n3, n4, n5, n6, n7⟩ := id hM
  have hT9 := id hT
  obtain ⟨t6, tP, t11⟩ := hT9
  have hloop : ∀ (q : Nat) (g : Nat → Int), TOk (I (o + 5)) g → g 6 - g 11 < q → ffL (I (o + 5)) (q + 1) g = ffL (I (o + 5)) 82 (st1 f 11 0) → Zq p l e9 ⟨5, 0, 0, 106⟩ s mt args below meth c G 1 Q 0 0 z K N (va_up I o g) R 5 [(0, .ref o)] [] := by
    intro q
    induction q with
    | zero => intro g hg hq he; exact absurd hq (by have := hg.2.2; omega)
    | succ q ih =>
      intro g hg hq he
      have g1 := hg.ro
      have g2 := Fwd.ro (I (o + 5)) g
      have g3 := Fwd.nx (I (o + 5)) (roF (I (o + 5)) g) 59
      have g4 := g1.nx (w := 59) (by omega)
      have r6 := g1.1
      have r11 := g1.2.2
      have t6g := hg.1
      have t11g := hg.2.2
      refine z_aload_n C dX7_findFault_5 rfl ?_
      refine z_callVd C (ci := 7) rfl (by decide) (by first | assumption | exact hM.1) (mX7_readsOrder l G (I := I) hM hg) (cwV 0 C.2.2.2.2.1 gv7_202 rfl rfl rfl hd_X7_readsOrder ⟨Nat.le_of_ble_eq_true rfl, Nat.le_of_ble_eq_true rfl⟩) rfl rfl (Nat.le_of_ble_eq_true rfl) dX7_findFault_6 ⟨Nat.zero_le _, Nat.zero_le _⟩ ?_
      have hr01 := roB_01 (I (o + 5)) g
      refine z_if_ne C (tgt := 17) dX7_findFault_9 (by decide) (by first | omega | exact b2i_r) (fun h9 => ?_) (fun h9 => ?_)
      · rw [ffL_s, if_neg h9] at he
        refine z_aload_n C dX7_findFault_17 rfl ?_
        refine z_gI C (ci := 7) (k := 11) rfl (by decide) rfl (by decide) wl_7 wq_28_17 rfl dX7_findFault_18 (by assumption) ?_
        rw [va_up_s]
        refine z_aload_n C dX7_findFault_21 rfl ?_
        refine z_gI C (ci := 7) (k := 6) rfl (by decide) rfl (by decide) wl_7 wq_22_5 rfl dX7_findFault_22 (by assumption) ?_
        rw [va_up_s]
        refine z_icmp_ne C (tgt := 31) dX7_findFault_25 (by decide) (by first | omega | exact b2i_r) (by first | omega | exact b2i_r) (fun h25 => ?_) (fun h25 => ?_)
        · rw [if_neg h25] at he
          refine z_aload_n C dX7_findFault_31 rfl ?_
          refine z_bipush C dX7_findFault_32 (by decide) ?_
          refine z_callVd C (ci := 7) rfl (by decide) (by first | assumption | exact hM.1) (mX7_isNext l G (I := I) hM g1 (w := 59) (by omega)) (cwV 1 C.2.2.2.2.1 gv7_180 rfl rfl rfl hd_X7_isNext ⟨Nat.le_of_ble_eq_true rfl, Nat.le_of_ble_eq_true rfl⟩) rfl rfl (Nat.le_of_ble_eq_true rfl) dX7_findFault_34 ⟨Nat.zero_le _, Nat.zero_le _⟩ ?_
          have hn01 := nx_01 (I (o + 5)) (roF (I (o + 5)) g) 59
          refine z_if_ne C (tgt := 5) dX7_findFault_37 (by decide) (by first | omega | exact b2i_r) (fun h37 => ?_) (fun h37 => ?_)
          · rw [if_neg h37] at he
            have hnx : nxF (I (o + 5)) (roF (I (o + 5)) g) 59 11 = roF (I (o + 5)) g 11 + nxB (I (o + 5)) (roF (I (o + 5)) g) 59 := by unfold nxF atS; rw [st1_s]
            refine ih _ g4 ?_ he
            have e1 := g2.1
            have e2 := g2.2.1
            have e3 := g3.1
            omega
          · rw [if_pos (by omega)] at he
            refine z_aload_n C dX7_findFault_40 rfl ?_
            refine z_gI C (ci := 7) (k := 11) rfl (by decide) rfl (by decide) wl_7 wq_28_17 rfl dX7_findFault_41 (by assumption) ?_
            rw [va_up_s]
            exact z_iret2 C hQ rfl dX7_findFault_44 ⟨zr (congrArg Prod.fst he), rfl, rfl, rfl, congrArg (fun x => va_up I o x.2) he, rfl⟩
        · rw [if_pos h25] at he
          refine z_bipush C dX7_findFault_28 (by decide) ?_
          exact z_iret2 C hQ rfl dX7_findFault_30 ⟨zr (congrArg Prod.fst he), rfl, rfl, rfl, congrArg (fun x => va_up I o x.2) he, rfl⟩
      · rw [ffL_s, if_pos (by omega)] at he
        refine z_aload_n C dX7_findFault_12 rfl ?_
        refine z_gI C (ci := 7) (k := 11) rfl (by decide) rfl (by decide) wl_7 wq_28_17 rfl dX7_findFault_13 (by assumption) ?_
        rw [va_up_s]
        exact z_iret2 C hQ rfl dX7_findFault_16 ⟨zr (congrArg Prod.fst he), rfl, rfl, rfl, congrArg (fun x => va_up I o x.2) he, rfl⟩
  refine z_aload_n C dX7_findFault_0 rfl ?_
  refine z_iconst C dX7_findFault_1 ?_
  refine z_pI C (ci := 7) (k := 11) rfl (by decide) rfl (by decide) tyX7_ok nmX7 wl_7 wq_28_17 rfl (Or.inl rfl) dX7_findFault_2 (by assumption) ?_
  rw [u2_vst]
  have hT0 : TOk (I (o + 5)) (st1 f 11 0) := ⟨by rw [st1_n (by omega)]; exact t6, tP, by rw [st1_s, st1_n (by omega)]; omega⟩
  exact hloop 81 _ hT0 (by rw [st1_s, st1_n (by omega)]; omega) rfl

set_option maxHeartbeats 4000000 in
set_option maxRecDepth 100000 in
theorem mX7_fault (l : Launch) (G : GG) {z : Nat} {K N : Nat → Nat} {I : MI} {R : MR} {o : Nat} (hM : ShM G z K N R o) {f : Nat → Int} (hT : TOk (I (o + 5)) f)  : Cod l G yX7_fault (Cond.code yX7_fault cX7_fault 1 (some .int) :: wsL_law) ⟨6, 0, 0, 126⟩ [.ref o] z K N (va_up I o f) R (some (.int (zI (ffV (I (o + 5)) f)))) (va_up I o (ffF (I (o + 5)) f)) R := by
  refine Con.of (own := RX7) (cc := cX7_fault) (maxL := 1) (ret := (some .int)) (by decide +kernel) rfl rfl (Nat.le_of_ble_eq_true rfl) (by decide) rfl ?_
  intro p e9 s mt args below meth c Q hin hQ C
  obtain ⟨ho, ⟨r0, r1, r3, r4, r5, r7, r8⟩, ⟨k1, k2, k3, k4, k5, k6, k7⟩, n1, n2, n3, n4, n5, n6, n7⟩ := id hM
  have hT9 := id hT
  obtain ⟨t6, tP, t11⟩ := hT9
  refine z_aload_n C dX7_fault_0 rfl ?_
  refine z_callVd C (ci := 7) rfl (by decide) (by first | assumption | exact hM.1) (mX7_findFault l G (I := I) hM hT) (cwV 0 C.2.2.2.2.1 gv7_205 rfl rfl rfl hd_X7_findFault ⟨Nat.le_of_ble_eq_true rfl, Nat.le_of_ble_eq_true rfl⟩) rfl rfl (Nat.le_of_ble_eq_true rfl) dX7_fault_1 ⟨Nat.zero_le _, Nat.zero_le _⟩ ?_
  exact z_iret2 C hQ rfl dX7_fault_4 ⟨rfl, rfl, rfl, rfl, rfl, rfl⟩

