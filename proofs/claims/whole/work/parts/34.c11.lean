theorem md_nx (P g : Nat → Int) (w : Int) : nxF P (md g) w = md (st1 g 4 (g 4 + nxB P (md g) w)) := by
  rw [md_c]
  rfl
/-- what readValue reads, from behind a sign -/
def rvg (P g : Nat → Int) : Nat → Int := st1 g 4 (g 4 + nxB P (md g) 45)
theorem rvg_md (P g : Nat → Int) : md (rvg P g) = nxF P (md g) 45 := (md_nx P g 45).symm
def rvN (P nu g : Nat → Int) : Nat → Int := if isDg P (md (rvg P g)) then st1 nu 0 (if nxB P (md g) 45 = 0 then tnV P (md (rvg P g)) else -tnV P (md (rvg P g))) else nu
def rvG (P g : Nat → Int) : Nat → Int := if isDg P (md (rvg P g)) then st1 (rvg P g) 4 (tnF P (md (rvg P g)) 11) else rvg P g
set_option maxHeartbeats 4000000 in
set_option maxRecDepth 100000 in
theorem mX3_readValue (l : Launch) (G : GG) {z : Nat} {K N : Nat → Nat} {I : MI} {R : MR} {b : Nat} (hM : ShP G z K N R b) {nu g : Nat → Int} (hT : TOk (I (b + 2)) (md g))  : Cod l G yX3_readValue (Cond.code yX3_readValue cX3_readValue 2 (some .boolean) :: wsL_law) ⟨2, 0, 0, 44⟩ [.ref b] z K N (PM I b nu g) R (some (.int (zI (b2i (isDg (I (b + 2)) (md (rvg (I (b + 2)) g))))))) (PM I b (rvN (I (b + 2)) nu g) (rvG (I (b + 2)) g)) R := by
  refine Con.of (own := RX3) (cc := cX3_readValue) (maxL := 2) (ret := (some .boolean)) (by decide +kernel) rfl rfl (Nat.le_of_ble_eq_true rfl) (by decide) rfl ?_
  intro p e9 s mt args below meth c Q hin hQ C
  obtain ⟨ho, ⟨r0, r3⟩, ⟨k1, k2⟩, n1, n2⟩ := id hM
  have hT9 := id hT
  obtain ⟨t6, tP, t11⟩ := hT9
  rw [md_6] at t6 t11
  rw [md_11] at t11
  have hT2 : TOk (I (b + 2)) (md (rvg (I (b + 2)) g)) := by rw [rvg_md]; exact hT.nx (by omega)
  have htn := tnV_rng hT2
  have hnx := nx_01 (I (b + 2)) (md g) 45
  refine z_aload_n C dX3_readValue_0 rfl ?_
  refine z_bipush C dX3_readValue_1 (by decide) ?_
  refine z_callVd C (ci := 3) rfl (by decide) (by first | assumption | exact hM.1) (mX3_pass l G hM hT (w := 45) (by omega)) (cwV 1 C.2.2.2.2.1 gv3_43 rfl rfl rfl hd_X3_pass ⟨Nat.le_of_ble_eq_true rfl, Nat.le_of_ble_eq_true rfl⟩) rfl rfl (Nat.le_of_ble_eq_true rfl) dX3_readValue_3 ⟨Nat.zero_le _, Nat.zero_le _⟩ ?_
  rw [show st1 g 4 (g 4 + nxB (I (b + 2)) (md g) 45) = rvg (I (b + 2)) g from rfl]
  refine z_istore_n C dX3_readValue_6 (by decide) rfl ?_
  refine z_aload_n C dX3_readValue_7 rfl ?_
  refine z_iconst C dX3_readValue_8 ?_
  refine z_callVd C (ci := 3) rfl (by decide) (by first | assumption | exact hM.1) (mX3_readNumber l G hM hT2 (k9 := 0) (by omega)) (cwV 1 C.2.2.2.2.1 gv3_54 rfl rfl rfl hd_X3_readNumber ⟨Nat.le_of_ble_eq_true rfl, Nat.le_of_ble_eq_true rfl⟩) rfl rfl (Nat.le_of_ble_eq_true rfl) dX3_readValue_9 ⟨Nat.zero_le _, Nat.zero_le _⟩ ?_
  refine z_if_ne C (tgt := 17) dX3_readValue_12 (by decide) (by first | omega | exact b2i_r) (fun h12 => ?_) (fun h12 => ?_)
  · have hd9 : isDg (I (b + 2)) (md (rvg (I (b + 2)) g)) := b2i_1.mp h12
    rw [if_pos hd9, if_pos hd9]
    refine z_iload_n C dX3_readValue_17 rfl ?_
    refine z_if_eq C (tgt := 34) dX3_readValue_18 (by decide) (by first | omega | exact b2i_r) (fun h18 => ?_) (fun h18 => ?_)
    · first | rw [PM_u, st1_2] | skip
      refine z_iconst C dX3_readValue_34 ?_
      exact z_zret2 C hQ rfl (by first | exact Or.inl rfl | exact Or.inr rfl | exact b2i_c | omega) dX3_readValue_35 ⟨zr (by first | exact (b2i_t hd9).symm | exact (b2i_f hd9).symm), rfl, rfl, rfl, by unfold rvN rvG; first | (rw [if_neg hd9, if_neg hd9]; done) | (rw [if_pos hd9, if_pos hd9, if_pos h18]; done) | (rw [if_pos hd9, if_pos hd9, if_neg h18]), rfl⟩
    · refine z_aload_n C dX3_readValue_21 rfl ?_
      refine z_gR C (ci := 3) (k := 0) rfl (by decide) rfl (by decide) wl_3 wq_3_20 (by decide) dX3_readValue_22 (by assumption) (by assumption) ?_
      refine z_iconst C dX3_readValue_25 ?_
      refine z_aload_n C dX3_readValue_26 rfl ?_
      refine z_gR C (ci := 3) (k := 0) rfl (by decide) rfl (by decide) wl_3 wq_3_20 (by decide) dX3_readValue_27 (by assumption) (by assumption) ?_
      refine z_iconst C dX3_readValue_30 ?_
      refine z_ialdk C (0) dX3_readValue_31 (by assumption) (by first | rfl | omega) (by omega) (by omega) ?_
      rw [PM_1, st1_s]
      refine z_ineg C dX3_readValue_32 ?_
      refine z_iastk C (0) dX3_readValue_33 (by assumption) (by first | rfl | omega) (by omega) (by omega) ?_
      first | rw [PM_u, st1_2] | skip
      refine z_iconst C dX3_readValue_34 ?_
      exact z_zret2 C hQ rfl (by first | exact Or.inl rfl | exact Or.inr rfl | exact b2i_c | omega) dX3_readValue_35 ⟨zr (by first | exact (b2i_t hd9).symm | exact (b2i_f hd9).symm), rfl, rfl, rfl, by unfold rvN rvG; first | (rw [if_neg hd9, if_neg hd9]; done) | (rw [if_pos hd9, if_pos hd9, if_pos h18]; done) | (rw [if_pos hd9, if_pos hd9, if_neg h18]), rfl⟩
  · have hd9 : ¬ isDg (I (b + 2)) (md (rvg (I (b + 2)) g)) := b2i_0.mp h12
    rw [if_neg hd9, if_neg hd9]
    refine z_iconst C dX3_readValue_15 ?_
    exact z_zret2 C hQ rfl (by first | exact Or.inl rfl | exact Or.inr rfl | exact b2i_c | omega) dX3_readValue_16 ⟨zr (by first | exact (b2i_t hd9).symm | exact (b2i_f hd9).symm), rfl, rfl, rfl, by unfold rvN rvG; first | (rw [if_neg hd9, if_neg hd9]; done) | (rw [if_pos hd9, if_pos hd9, if_pos h18]; done) | (rw [if_pos hd9, if_pos hd9, if_neg h18]), rfl⟩

