/-! reading the pad: P its characters, f the row of the model's own fields -/
def chF (P f : Nat → Int) (i : Int) : Int := if i < f 6 then P i.toNat else -1
def atS (f : Nat → Int) (v : Int) : Nat → Int := st1 f 11 (f 11 + v)
def nxB (P f : Nat → Int) (w : Int) : Int := b2i (chF P f (f 11) = w)
def nxF (P f : Nat → Int) (w : Int) : Nat → Int := atS f (nxB P f w)
abbrev isDg (P f : Nat → Int) : Prop := 48 ≤ chF P f (f 11) ∧ chF P f (f 11) ≤ 57
def tdV (P f : Nat → Int) : Int := if isDg P f then chF P f (f 11) - 48 else -1
def tdF (P f : Nat → Int) : Nat → Int := if isDg P f then atS f 1 else f
def tnL (P : Nat → Int) : Nat → Int → (Nat → Int) → Int × (Nat → Int)
  | 0, v, f => (v, f)
  | n + 1, v, f => if (0 < v ∧ v < 1000) ∧ isDg P f then tnL P n (10 * v + tdV P f) (tdF P f) else (v, f)
theorem tnL_s (P : Nat → Int) (n : Nat) (v : Int) (f : Nat → Int) : tnL P (n + 1) v f = if (0 < v ∧ v < 1000) ∧ isDg P f then tnL P n (10 * v + tdV P f) (tdF P f) else (v, f) := rfl
def tnV (P f : Nat → Int) : Int := (tnL P 3 (tdV P f) (tdF P f)).1
def tnF (P f : Nat → Int) : Nat → Int := (tnL P 3 (tdV P f) (tdF P f)).2
/-- the pad and the place in it -/
def TOk (P f : Nat → Int) : Prop := (0 ≤ f 6 ∧ f 6 ≤ 80) ∧ (∀ i : Nat, i < 80 → 0 ≤ P i ∧ P i ≤ 126) ∧ 0 ≤ f 11 ∧ f 11 ≤ f 6
theorem chF_rng {P f : Nat → Int} (h : TOk P f) {i : Int} (hi : 0 ≤ i) : -1 ≤ chF P f i ∧ chF P f i ≤ 126 := by
  unfold chF
  split
  · have := h.2.1 i.toNat (by have := h.1; omega)
    omega
  · omega
theorem chF_lt {P f : Nat → Int} {i : Int} (h : ¬ chF P f i = -1) : i < f 6 := by
  unfold chF at h
  by_cases hi : i < f 6
  · exact hi
  · rw [if_neg hi] at h; exact absurd rfl h
theorem TOk.at {P f : Nat → Int} (h : TOk P f) {v : Int} (hv : 0 ≤ f 11 + v ∧ f 11 + v ≤ f 6) : TOk P (atS f v) := by
  unfold atS
  refine ⟨?_, h.2.1, ?_⟩
  · rw [st1_n (by omega)]; exact h.1
  · rw [st1_s, st1_n (by omega)]; exact hv
theorem TOk.st {P f : Nat → Int} (h : TOk P f) {k : Nat} (v : Int) (h1 : ¬ k = 6) (h2 : ¬ k = 11) : TOk P (st1 f k v) := by
  unfold TOk
  rw [st1_n (Ne.symm h1), st1_n (Ne.symm h2)]
  exact h
theorem TOk.nx {P f : Nat → Int} (h : TOk P f) {w : Int} (hw : 0 ≤ w) : TOk P (nxF P f w) := by
  refine h.at ?_
  unfold nxB
  by_cases hc : chF P f (f 11) = w
  · rw [b2i_t hc]
    have := chF_lt (P := P) (f := f) (i := f 11) (by omega)
    have := h.2.2
    omega
  · rw [b2i_f hc]
    have := h.2.2
    omega
theorem TOk.td {P f : Nat → Int} (h : TOk P f) : TOk P (tdF P f) := by
  unfold tdF
  by_cases hc : isDg P f
  · rw [if_pos hc]
    have := chF_lt (P := P) (f := f) (i := f 11) (by have := hc.1; omega)
    have := h.2.2
    exact h.at (by omega)
  · rw [if_neg hc]; exact h
theorem tdV_rng (P f : Nat → Int) : -1 ≤ tdV P f ∧ tdV P f ≤ 9 := by
  unfold tdV
  by_cases hc : isDg P f
  · rw [if_pos hc]; have := hc.1; have := hc.2; omega
  · rw [if_neg hc]; omega
theorem tnL_ok {P : Nat → Int} : ∀ (n : Nat) (v : Int) (f : Nat → Int), TOk P f → -1 ≤ v ∧ v ≤ 9999 → TOk P (tnL P n v f).2 ∧ -1 ≤ (tnL P n v f).1 ∧ (tnL P n v f).1 ≤ 9999
  | 0, v, f, h, hv => ⟨h, hv⟩
  | n + 1, v, f, h, hv => by
    rw [tnL_s]
    by_cases hc : (0 < v ∧ v < 1000) ∧ isDg P f
    · rw [if_pos hc]
      refine tnL_ok n _ _ h.td ?_
      have := tdV_rng P f
      omega
    · rw [if_neg hc]; exact ⟨h, hv⟩
theorem TOk.tn {P f : Nat → Int} (h : TOk P f) : TOk P (tnF P f) := (tnL_ok 3 _ _ h.td (by have := tdV_rng P f; omega)).1
theorem tnV_rng {P f : Nat → Int} (h : TOk P f) : -1 ≤ tnV P f ∧ tnV P f ≤ 9999 := (tnL_ok 3 _ _ h.td (by have := tdV_rng P f; omega)).2
theorem tnL_0 {P : Nat → Int} {v : Int} {f : Nat → Int} (n : Nat) (h : ¬ ((0 < v ∧ v < 1000) ∧ isDg P f)) : tnL P n v f = (v, f) := by
  cases n with
  | zero => rfl
  | succ n => rw [tnL_s, if_neg h]
set_option maxHeartbeats 4000000 in
set_option maxRecDepth 100000 in
theorem mX7_character (l : Launch) (G : GG) {z : Nat} {K N : Nat → Nat} {I : MI} {R : MR} {o : Nat} (hM : ShM G z K N R o) {f : Nat → Int} (hT : TOk (I (o + 5)) f) {i : Int} (hi : 0 ≤ i ∧ i < 2147483647) : Cod l G yX7_character (Cond.code yX7_character cX7_character 2 (some .int) :: wsL_law) ⟨0, 0, 0, 0⟩ [.ref o, .int (zI i)] z K N (va_up I o f) R (some (.int (zI (chF (I (o + 5)) f i)))) (va_up I o f) R := by
  refine Con.of (own := RX7) (cc := cX7_character) (maxL := 2) (ret := (some .int)) (by decide +kernel) rfl rfl (Nat.le_of_ble_eq_true rfl) (by decide) rfl ?_
  intro p e9 s mt args below meth c Q hin hQ C
  obtain ⟨ho, ⟨r0, r1, r3, r4, r5, r7, r8⟩, ⟨k1, k2, k3, k4, k5, k6, k7⟩, n1, n2, n3, n4, n5, n6, n7⟩ := id hM
  have hT9 := id hT
  obtain ⟨t6, tP, t11⟩ := hT9
  refine z_iload_n C dX7_character_0 rfl ?_
  refine z_aload_n C dX7_character_1 rfl ?_
  refine z_gI C (ci := 7) (k := 6) rfl (by decide) rfl (by decide) wl_7 wq_22_5 rfl dX7_character_2 (by assumption) ?_
  rw [va_up_s]
  refine z_icmp_ge C (tgt := 17) dX7_character_5 (by decide) (by first | omega | exact b2i_r) (by first | omega | exact b2i_r) (fun h5 => ?_) (fun h5 => ?_)
  · refine z_iconst C dX7_character_17 ?_
    exact z_iret2 C hQ rfl dX7_character_18 ⟨zr (by unfold chF; first | exact (if_neg (by omega)).symm | exact (if_pos (by omega)).symm), rfl, rfl, rfl, rfl, rfl⟩
  · refine z_aload_n C dX7_character_8 rfl ?_
    refine z_gR C (ci := 7) (k := 5) rfl (by decide) rfl (by decide) wl_7 wq_4_7 (by decide) dX7_character_9 (by assumption) (by assumption) ?_
    obtain ⟨n9, rfl⟩ := Int.eq_ofNat_of_zero_le hi.1
    have hp9 := tP n9 (by omega)
    refine z_iload_n C dX7_character_12 rfl ?_
    refine z_ialdk C (n9) dX7_character_13 (by assumption) (by first | rfl | omega) (by omega) (by omega) ?_
    rw [va_up_n (by omega)]
    refine z_goto C (tgt := 18) dX7_character_14 (by decide) ?_
    exact z_iret2 C hQ rfl dX7_character_18 ⟨zr (by unfold chF; first | exact (if_neg (by omega)).symm | exact (if_pos (by omega)).symm), rfl, rfl, rfl, rfl, rfl⟩

set_option maxHeartbeats 4000000 in
set_option maxRecDepth 100000 in
theorem mX7_isNext (l : Launch) (G : GG) {z : Nat} {K N : Nat → Nat} {I : MI} {R : MR} {o : Nat} (hM : ShM G z K N R o) {f : Nat → Int} (hT : TOk (I (o + 5)) f) {w : Int} (hw : 0 ≤ w ∧ w < 128) : Cod l G yX7_isNext (Cond.code yX7_isNext cX7_isNext 3 (some .boolean) :: wsL_law) ⟨1, 0, 0, 21⟩ [.ref o, .int (zI w)] z K N (va_up I o f) R (some (.int (zI (nxB (I (o + 5)) f w)))) (va_up I o (nxF (I (o + 5)) f w)) R := by
  refine Con.of (own := RX7) (cc := cX7_isNext) (maxL := 3) (ret := (some .boolean)) (by decide +kernel) rfl rfl (Nat.le_of_ble_eq_true rfl) (by decide) rfl ?_
  intro p e9 s mt args below meth c Q hin hQ C
  obtain ⟨ho, ⟨r0, r1, r3, r4, r5, r7, r8⟩, ⟨k1, k2, k3, k4, k5, k6, k7⟩, n1, n2, n3, n4, n5, n6, n7⟩ := id hM
  have hT9 := id hT
  obtain ⟨t6, tP, t11⟩ := hT9
  have hch := chF_rng hT t11.1
  refine z_aload_n C dX7_isNext_0 rfl ?_
  refine z_aload_n C dX7_isNext_1 rfl ?_
  refine z_gI C (ci := 7) (k := 11) rfl (by decide) rfl (by decide) wl_7 wq_28_17 rfl dX7_isNext_2 (by assumption) ?_
  rw [va_up_s]
  refine z_callVd C (ci := 7) rfl (by decide) (by first | assumption | exact hM.1) (mX7_character l G hM hT (by omega)) (cwV 1 C.2.2.2.2.1 gv7_174 rfl rfl rfl hd_X7_character ⟨Nat.le_of_ble_eq_true rfl, Nat.le_of_ble_eq_true rfl⟩) rfl rfl (Nat.le_of_ble_eq_true rfl) dX7_isNext_5 ⟨Nat.zero_le _, Nat.zero_le _⟩ ?_
  refine z_iload_n C dX7_isNext_8 rfl ?_
  refine z_icmp_ne C (tgt := 16) dX7_isNext_9 (by decide) (by first | omega | exact b2i_r) (by first | omega | exact b2i_r) (fun h9 => ?_) (fun h9 => ?_)
  · refine z_iconst C dX7_isNext_16 ?_
    refine z_istore_n C dX7_isNext_17 (by decide) rfl ?_
    refine z_aload_n C dX7_isNext_18 rfl ?_
    refine z_dup C dX7_isNext_19 rfl ?_
    refine z_gI C (ci := 7) (k := 11) rfl (by decide) rfl (by decide) wl_7 wq_28_17 rfl dX7_isNext_20 (by assumption) ?_
    rw [va_up_s]
    refine z_iload_n C dX7_isNext_23 rfl ?_
    refine z_if_eq C (tgt := 31) dX7_isNext_24 (by decide) (by first | omega | exact b2i_r) (fun h24 => ?_) (fun h24 => ?_)
    · refine z_iconst C dX7_isNext_31 ?_
      refine z_iadd C dX7_isNext_32 ?_
      
      refine z_pI C (ci := 7) (k := 11) rfl (by decide) rfl (by decide) tyX7_ok nmX7 wl_7 wq_28_17 rfl (Or.inl rfl) dX7_isNext_33 (by assumption) ?_
      refine z_iload_n C dX7_isNext_36 rfl ?_
      exact z_zret2 C hQ rfl (by first | exact Or.inl rfl | exact Or.inr rfl | exact b2i_c | omega) dX7_isNext_37 ⟨zr (by first | exact (b2i_t h9).symm | exact (b2i_f h9).symm), rfl, rfl, rfl, by first | (exfalso; omega) | (rw [u2_vst]; unfold nxF atS nxB; first | rw [b2i_t h9] | rw [b2i_f h9]), rfl⟩
    · refine z_iconst C dX7_isNext_27 ?_
      refine z_goto C (tgt := 32) dX7_isNext_28 (by decide) ?_
      refine z_iadd C dX7_isNext_32 ?_
      
      refine z_pI C (ci := 7) (k := 11) rfl (by decide) rfl (by decide) tyX7_ok nmX7 wl_7 wq_28_17 rfl (Or.inl rfl) dX7_isNext_33 (by assumption) ?_
      refine z_iload_n C dX7_isNext_36 rfl ?_
      exact z_zret2 C hQ rfl (by first | exact Or.inl rfl | exact Or.inr rfl | exact b2i_c | omega) dX7_isNext_37 ⟨zr (by first | exact (b2i_t h9).symm | exact (b2i_f h9).symm), rfl, rfl, rfl, by first | (exfalso; omega) | (rw [u2_vst]; unfold nxF atS nxB; first | rw [b2i_t h9] | rw [b2i_f h9]), rfl⟩
  · refine z_iconst C dX7_isNext_12 ?_
    refine z_goto C (tgt := 17) dX7_isNext_13 (by decide) ?_
    refine z_istore_n C dX7_isNext_17 (by decide) rfl ?_
    refine z_aload_n C dX7_isNext_18 rfl ?_
    refine z_dup C dX7_isNext_19 rfl ?_
    refine z_gI C (ci := 7) (k := 11) rfl (by decide) rfl (by decide) wl_7 wq_28_17 rfl dX7_isNext_20 (by assumption) ?_
    rw [va_up_s]
    refine z_iload_n C dX7_isNext_23 rfl ?_
    refine z_if_eq C (tgt := 31) dX7_isNext_24 (by decide) (by first | omega | exact b2i_r) (fun h24 => ?_) (fun h24 => ?_)
    · refine z_iconst C dX7_isNext_31 ?_
      refine z_iadd C dX7_isNext_32 ?_
      
      refine z_pI C (ci := 7) (k := 11) rfl (by decide) rfl (by decide) tyX7_ok nmX7 wl_7 wq_28_17 rfl (Or.inl rfl) dX7_isNext_33 (by assumption) ?_
      refine z_iload_n C dX7_isNext_36 rfl ?_
      exact z_zret2 C hQ rfl (by first | exact Or.inl rfl | exact Or.inr rfl | exact b2i_c | omega) dX7_isNext_37 ⟨zr (by first | exact (b2i_t h9).symm | exact (b2i_f h9).symm), rfl, rfl, rfl, by first | (exfalso; omega) | (rw [u2_vst]; unfold nxF atS nxB; first | rw [b2i_t h9] | rw [b2i_f h9]), rfl⟩
    · refine z_iconst C dX7_isNext_27 ?_
      refine z_goto C (tgt := 32) dX7_isNext_28 (by decide) ?_
      refine z_iadd C dX7_isNext_32 ?_
      
      refine z_pI C (ci := 7) (k := 11) rfl (by decide) rfl (by decide) tyX7_ok nmX7 wl_7 wq_28_17 rfl (Or.inl rfl) dX7_isNext_33 (by assumption) ?_
      refine z_iload_n C dX7_isNext_36 rfl ?_
      exact z_zret2 C hQ rfl (by first | exact Or.inl rfl | exact Or.inr rfl | exact b2i_c | omega) dX7_isNext_37 ⟨zr (by first | exact (b2i_t h9).symm | exact (b2i_f h9).symm), rfl, rfl, rfl, by first | (exfalso; omega) | (rw [u2_vst]; unfold nxF atS nxB; first | rw [b2i_t h9] | rw [b2i_f h9]), rfl⟩

set_option maxHeartbeats 4000000 in
set_option maxRecDepth 100000 in
theorem mX7_takeDigit (l : Launch) (G : GG) {z : Nat} {K N : Nat → Nat} {I : MI} {R : MR} {o : Nat} (hM : ShM G z K N R o) {f : Nat → Int} (hT : TOk (I (o + 5)) f)  : Cod l G yX7_takeDigit (Cond.code yX7_takeDigit cX7_takeDigit 2 (some .int) :: wsL_law) ⟨1, 0, 0, 22⟩ [.ref o] z K N (va_up I o f) R (some (.int (zI (tdV (I (o + 5)) f)))) (va_up I o (tdF (I (o + 5)) f)) R := by
  refine Con.of (own := RX7) (cc := cX7_takeDigit) (maxL := 2) (ret := (some .int)) (by decide +kernel) rfl rfl (Nat.le_of_ble_eq_true rfl) (by decide) rfl ?_
  intro p e9 s mt args below meth c Q hin hQ C
  obtain ⟨ho, ⟨r0, r1, r3, r4, r5, r7, r8⟩, ⟨k1, k2, k3, k4, k5, k6, k7⟩, n1, n2, n3, n4, n5, n6, n7⟩ := id hM
  have hT9 := id hT
  obtain ⟨t6, tP, t11⟩ := hT9
  have hch := chF_rng hT t11.1
  refine z_aload_n C dX7_takeDigit_0 rfl ?_
  refine z_aload_n C dX7_takeDigit_1 rfl ?_
  refine z_gI C (ci := 7) (k := 11) rfl (by decide) rfl (by decide) wl_7 wq_28_17 rfl dX7_takeDigit_2 (by assumption) ?_
  rw [va_up_s]
  refine z_callVd C (ci := 7) rfl (by decide) (by first | assumption | exact hM.1) (mX7_character l G hM hT (by omega)) (cwV 1 C.2.2.2.2.1 gv7_174 rfl rfl rfl hd_X7_character ⟨Nat.le_of_ble_eq_true rfl, Nat.le_of_ble_eq_true rfl⟩) rfl rfl (Nat.le_of_ble_eq_true rfl) dX7_takeDigit_5 ⟨Nat.zero_le _, Nat.zero_le _⟩ ?_
  refine z_bipush C dX7_takeDigit_8 (by decide) ?_
  refine z_isub C dX7_takeDigit_10 ?_
  refine z_istore_n C dX7_takeDigit_11 (by decide) rfl ?_
  refine z_iload_n C dX7_takeDigit_12 rfl ?_
  refine z_iconst C dX7_takeDigit_13 ?_
  refine z_bipush C dX7_takeDigit_14 (by decide) ?_
  refine z_callSd C (mX7_within l G (by omega) (by omega) (by omega)) (va_cwS 3 C.2.2.2.2.1 gv7_39 rfl rfl rfl hs_X7_within ⟨Nat.le_of_ble_eq_true rfl, Nat.le_of_ble_eq_true rfl⟩) rfl rfl (Nat.le_of_ble_eq_true rfl) dX7_takeDigit_16 ⟨Nat.zero_le _, Nat.zero_le _⟩ ?_
  refine z_if_ne C (tgt := 24) dX7_takeDigit_19 (by decide) (by first | omega | exact b2i_r) (fun h19 => ?_) (fun h19 => ?_)
  · have hd9 : isDg (I (o + 5)) f := by have := b2i_1.mp h19; exact ⟨by omega, by omega⟩
    refine z_aload_n C dX7_takeDigit_24 rfl ?_
    refine z_dup C dX7_takeDigit_25 rfl ?_
    refine z_gI C (ci := 7) (k := 11) rfl (by decide) rfl (by decide) wl_7 wq_28_17 rfl dX7_takeDigit_26 (by assumption) ?_
    rw [va_up_s]
    refine z_iconst C dX7_takeDigit_29 ?_
    refine z_iadd C dX7_takeDigit_30 ?_
    refine z_pI C (ci := 7) (k := 11) rfl (by decide) rfl (by decide) tyX7_ok nmX7 wl_7 wq_28_17 rfl (Or.inl rfl) dX7_takeDigit_31 (by assumption) ?_
    refine z_iload_n C dX7_takeDigit_34 rfl ?_
    exact z_iret2 C hQ rfl dX7_takeDigit_35 ⟨zr (by unfold tdV; first | exact (if_neg hd9).symm | exact (if_pos hd9).symm), rfl, rfl, rfl, by unfold tdF; first | rw [if_neg hd9] | (rw [if_pos hd9, u2_vst]; rfl), rfl⟩
  · have hd9 : ¬ isDg (I (o + 5)) f := fun z => b2i_0.mp h19 ⟨by have := z.1; omega, by have := z.2; omega⟩
    refine z_iconst C dX7_takeDigit_22 ?_
    exact z_iret2 C hQ rfl dX7_takeDigit_23 ⟨zr (by unfold tdV; first | exact (if_neg hd9).symm | exact (if_pos hd9).symm), rfl, rfl, rfl, by unfold tdF; first | rw [if_neg hd9] | (rw [if_pos hd9, u2_vst]; rfl), rfl⟩

set_option maxHeartbeats 4000000 in
set_option maxRecDepth 100000 in
theorem mX7_takeNumber (l : Launch) (G : GG) {z : Nat} {K N : Nat → Nat} {I : MI} {R : MR} {o : Nat} (hM : ShM G z K N R o) {f : Nat → Int} (hT : TOk (I (o + 5)) f)  : Cod l G yX7_takeNumber (Cond.code yX7_takeNumber cX7_takeNumber 2 (some .int) :: wsL_law) ⟨2, 0, 0, 43⟩ [.ref o] z K N (va_up I o f) R (some (.int (zI (tnV (I (o + 5)) f)))) (va_up I o (tnF (I (o + 5)) f)) R := by
  refine Con.of (own := RX7) (cc := cX7_takeNumber) (maxL := 2) (ret := (some .int)) (by decide +kernel) rfl rfl (Nat.le_of_ble_eq_true rfl) (by decide) rfl ?_
  intro p e9 s mt args below meth c Q hin hQ C
  obtain ⟨ho, ⟨r0, r1, r3, r4, r5, r7, r8⟩, ⟨k1, k2, k3, k4, k5, k6, k7⟩, n1, n2, n3, n4, n5, n6, n7⟩ := id hM
  have hT9 := id hT
  obtain ⟨t6, tP, t11⟩ := hT9
  have htd := tdV_rng (I (o + 5)) f
  have hloop : ∀ (q : Nat) (v : Int) (g : Nat → Int), TOk (I (o + 5)) g → -1 ≤ v ∧ v ≤ 9999 → (v ≤ 0 ∨ 1000 ≤ v * 10 ^ q) → tnL (I (o + 5)) q v g = tnL (I (o + 5)) 3 (tdV (I (o + 5)) f) (tdF (I (o + 5)) f) → Zq p l e9 ⟨2, 0, 0, 43⟩ s mt args below meth c G 2 Q 0 0 z K N (va_up I o g) R 5 [(0, .ref o), (1, .int (zI v))] [] := by
    intro q
    induction q with
    | zero =>
      intro v g hg hv hq he
      have hch := chF_rng hg hg.2.2.1
      have t6g := hg.1
      have t11g := hg.2.2
      have htd := tdV_rng (I (o + 5)) g
      refine z_iload_n C dX7_takeNumber_5 rfl ?_
      refine z_if_le C (tgt := 47) dX7_takeNumber_6 (by decide) (by first | omega | exact b2i_r) (fun h6 => ?_) (fun h6 => ?_)
      · have hno : ¬ ((0 < v ∧ v < 1000) ∧ isDg (I (o + 5)) g) := by
          rintro ⟨hz1, hz2⟩
          first | omega | exact b2i_0.mp h31 hz2
        rw [tnL_0 _ hno] at he
        refine z_iload_n C dX7_takeNumber_47 rfl ?_
        exact z_iret2 C hQ rfl dX7_takeNumber_48 ⟨zr (congrArg Prod.fst he), rfl, rfl, rfl, congrArg (fun x => va_up I o x.2) he, rfl⟩
      · refine z_iload_n C dX7_takeNumber_9 rfl ?_
        refine z_sipush C dX7_takeNumber_10 (by decide) ?_
        refine z_icmp_ge C (tgt := 47) dX7_takeNumber_13 (by decide) (by first | omega | exact b2i_r) (by first | omega | exact b2i_r) (fun h13 => ?_) (fun h13 => ?_)
        · have hno : ¬ ((0 < v ∧ v < 1000) ∧ isDg (I (o + 5)) g) := by
            rintro ⟨hz1, hz2⟩
            first | omega | exact b2i_0.mp h31 hz2
          rw [tnL_0 _ hno] at he
          refine z_iload_n C dX7_takeNumber_47 rfl ?_
          exact z_iret2 C hQ rfl dX7_takeNumber_48 ⟨zr (congrArg Prod.fst he), rfl, rfl, rfl, congrArg (fun x => va_up I o x.2) he, rfl⟩
        · exact absurd hq (by omega)
    | succ q ih =>
      intro v g hg hv hq he
      have hch := chF_rng hg hg.2.2.1
      have t6g := hg.1
      have t11g := hg.2.2
      have htd := tdV_rng (I (o + 5)) g
      refine z_iload_n C dX7_takeNumber_5 rfl ?_
      refine z_if_le C (tgt := 47) dX7_takeNumber_6 (by decide) (by first | omega | exact b2i_r) (fun h6 => ?_) (fun h6 => ?_)
      · have hno : ¬ ((0 < v ∧ v < 1000) ∧ isDg (I (o + 5)) g) := by
          rintro ⟨hz1, hz2⟩
          first | omega | exact b2i_0.mp h31 hz2
        rw [tnL_0 _ hno] at he
        refine z_iload_n C dX7_takeNumber_47 rfl ?_
        exact z_iret2 C hQ rfl dX7_takeNumber_48 ⟨zr (congrArg Prod.fst he), rfl, rfl, rfl, congrArg (fun x => va_up I o x.2) he, rfl⟩
      · refine z_iload_n C dX7_takeNumber_9 rfl ?_
        refine z_sipush C dX7_takeNumber_10 (by decide) ?_
        refine z_icmp_ge C (tgt := 47) dX7_takeNumber_13 (by decide) (by first | omega | exact b2i_r) (by first | omega | exact b2i_r) (fun h13 => ?_) (fun h13 => ?_)
        · have hno : ¬ ((0 < v ∧ v < 1000) ∧ isDg (I (o + 5)) g) := by
            rintro ⟨hz1, hz2⟩
            first | omega | exact b2i_0.mp h31 hz2
          rw [tnL_0 _ hno] at he
          refine z_iload_n C dX7_takeNumber_47 rfl ?_
          exact z_iret2 C hQ rfl dX7_takeNumber_48 ⟨zr (congrArg Prod.fst he), rfl, rfl, rfl, congrArg (fun x => va_up I o x.2) he, rfl⟩
        · have h160 : 0 < v ∧ v < 1000 := by omega
          refine z_aload_n C dX7_takeNumber_16 rfl ?_
          refine z_aload_n C dX7_takeNumber_17 rfl ?_
          refine z_gI C (ci := 7) (k := 11) rfl (by decide) rfl (by decide) wl_7 wq_28_17 rfl dX7_takeNumber_18 (by assumption) ?_
          rw [va_up_s]
          refine z_callVd C (ci := 7) rfl (by decide) (by first | assumption | exact hM.1) (mX7_character l G hM hg (by omega)) (cwV 1 C.2.2.2.2.1 gv7_174 rfl rfl rfl hd_X7_character ⟨Nat.le_of_ble_eq_true rfl, Nat.le_of_ble_eq_true rfl⟩) rfl rfl (Nat.le_of_ble_eq_true rfl) dX7_takeNumber_21 ⟨Nat.zero_le _, Nat.zero_le _⟩ ?_
          refine z_bipush C dX7_takeNumber_24 (by decide) ?_
          refine z_bipush C dX7_takeNumber_26 (by decide) ?_
          refine z_callSd C (mX7_within l G (by omega) (by omega) (by omega)) (va_cwS 3 C.2.2.2.2.1 gv7_39 rfl rfl rfl hs_X7_within ⟨Nat.le_of_ble_eq_true rfl, Nat.le_of_ble_eq_true rfl⟩) rfl rfl (Nat.le_of_ble_eq_true rfl) dX7_takeNumber_28 ⟨Nat.zero_le _, Nat.zero_le _⟩ ?_
          refine z_if_eq C (tgt := 47) dX7_takeNumber_31 (by decide) (by first | omega | exact b2i_r) (fun h31 => ?_) (fun h31 => ?_)
          · have hno : ¬ ((0 < v ∧ v < 1000) ∧ isDg (I (o + 5)) g) := by
              rintro ⟨hz1, hz2⟩
              first | omega | exact b2i_0.mp h31 hz2
            rw [tnL_0 _ hno] at he
            refine z_iload_n C dX7_takeNumber_47 rfl ?_
            exact z_iret2 C hQ rfl dX7_takeNumber_48 ⟨zr (congrArg Prod.fst he), rfl, rfl, rfl, congrArg (fun x => va_up I o x.2) he, rfl⟩
          · have hdg : isDg (I (o + 5)) g := b2i_1.mp h31
            refine z_bipush C dX7_takeNumber_34 (by decide) ?_
            refine z_iload_n C dX7_takeNumber_36 rfl ?_
            refine z_imul C dX7_takeNumber_37 ?_
            refine z_aload_n C dX7_takeNumber_38 rfl ?_
            refine z_callVd C (ci := 7) rfl (by decide) (by first | assumption | exact hM.1) (mX7_takeDigit l G hM hg) (cwV 0 C.2.2.2.2.1 gv7_177 rfl rfl rfl hd_X7_takeDigit ⟨Nat.le_of_ble_eq_true rfl, Nat.le_of_ble_eq_true rfl⟩) rfl rfl (Nat.le_of_ble_eq_true rfl) dX7_takeNumber_39 ⟨Nat.zero_le _, Nat.zero_le _⟩ ?_
            refine z_iadd C dX7_takeNumber_42 ?_
            refine z_istore_n C dX7_takeNumber_43 (by decide) rfl ?_
            refine z_goto C (tgt := 5) dX7_takeNumber_44 (by decide) ?_
            have htd0 : 0 ≤ tdV (I (o + 5)) g := by unfold tdV; rw [if_pos hdg]; have := hdg.1; omega
            rw [tnL_s, if_pos ⟨h160, hdg⟩] at he
            refine ih (10 * v + tdV (I (o + 5)) g) _ hg.td (by omega) (Or.inr ?_) he
            have h2 : v * 10 ^ (q + 1) = (10 * v) * 10 ^ q := by rw [Int.pow_succ, Int.mul_comm 10 v, Int.mul_assoc v 10, Int.mul_comm (10 ^ q) 10]
            have h3 : (10 * v) * (10 : Int) ^ q ≤ (10 * v + tdV (I (o + 5)) g) * 10 ^ q := Int.mul_le_mul_of_nonneg_right (by omega) (Int.le_of_lt (Int.pow_pos (by omega)))
            omega
  refine z_aload_n C dX7_takeNumber_0 rfl ?_
  refine z_callVd C (ci := 7) rfl (by decide) (by first | assumption | exact hM.1) (mX7_takeDigit l G hM hT) (cwV 0 C.2.2.2.2.1 gv7_177 rfl rfl rfl hd_X7_takeDigit ⟨Nat.le_of_ble_eq_true rfl, Nat.le_of_ble_eq_true rfl⟩) rfl rfl (Nat.le_of_ble_eq_true rfl) dX7_takeNumber_1 ⟨Nat.zero_le _, Nat.zero_le _⟩ ?_
  refine z_istore_n C dX7_takeNumber_4 (by decide) rfl ?_
  exact hloop 3 _ _ hT.td (by omega) (by omega) rfl

