/-! what the constructors make -/
theorem ShT.mono {G : GG} {z z' : Nat} {K N K' N' : Nat → Nat} {R R' : MR} {t : Nat} (h : ShT G z K N R t) (hz : z ≤ z') (hk : ∀ a : Nat, t ≤ a → a < t + 10 → K' a = K a ∧ N' a = N a ∧ R' a = R a) : ShT G z' K' N' R' t := by
  obtain ⟨a, ⟨b0, b1, b2⟩, ⟨c1, c2, c3⟩, ⟨d1, d2, d3⟩, e⟩ := h
  have up : ∀ q c : Nat, t ≤ q → q < t + 10 → zK G z K q c → zK G z' K' q c := fun q c h1 h2 h3 => ⟨h3.1, Nat.lt_of_lt_of_le h3.2.1 hz, (hk q h1 h2).1.trans h3.2.2⟩
  have k0 := hk t (by omega) (by omega)
  have k1 := hk (t + 1) (by omega) (by omega)
  have k2 := hk (t + 2) (by omega) (by omega)
  have k3 := hk (t + 3) (by omega) (by omega)
  refine ⟨up _ _ (by omega) (by omega) a, ⟨?_, ?_, ?_⟩, ⟨up _ _ (by omega) (by omega) c1, up _ _ (by omega) (by omega) c2, up _ _ (by omega) (by omega) c3⟩, ⟨?_, ?_, ?_⟩, fun i hi => ⟨up _ _ (by omega) (by omega) (e i hi).1, ?_⟩⟩
  · rw [k0.2.2]; exact b0
  · rw [k0.2.2]; exact b1
  · rw [k0.2.2]; exact b2
  · rw [k1.2.1]; exact d1
  · rw [k2.2.1]; exact d2
  · rw [k3.2.1]; exact d3
  · rw [k3.2.2]; exact (e i hi).2
def Iv4 (t i : Nat) (K N : Nat → Nat) (I : MI) (R : MR) (K2 N2 : Nat → Nat) (I2 : MI) (R2 : MR) : Prop :=
  (∀ a : Nat, a < t + 1 → K2 a = K a ∧ N2 a = N a ∧ I2 a = I a ∧ (a ≠ t → R2 a = R a)) ∧ (R2 t 0 = some (t + 1) ∧ R2 t 1 = some (t + 2) ∧ R2 t 2 = some (t + 3)) ∧ (K2 (t + 1) = 9 ∧ K2 (t + 2) = 9 ∧ K2 (t + 3) = 10) ∧ (N2 (t + 1) = 3 ∧ N2 (t + 2) = 14 ∧ N2 (t + 3) = 6) ∧ I2 (t + 1) = zF0 ∧ ∀ q : Nat, q < i → K2 (t + 4 + q) = 1 ∧ R2 (t + 3) q = some (t + 4 + q)
theorem Iv4.s {t i : Nat} {K N : Nat → Nat} {I : MI} {R : MR} {K2 N2 : Nat → Nat} {I2 : MI} {R2 : MR} (h : Iv4 t i K N I R K2 N2 I2 R2) : Iv4 t (i + 1) K N I R (va_up K2 (t + 4 + i) 1) N2 (va_up I2 (t + 4 + i) (fun _ => 0)) (u2 (va_up R2 (t + 4 + i) (fun _ => none)) (t + 3) i (some (t + 4 + i))) := by
  obtain ⟨a, ⟨b0, b1, b2⟩, ⟨c1, c2, c3⟩, d, e, g⟩ := h
  refine ⟨fun q hq => ⟨?_, (a q hq).2.1, ?_, fun hne => ?_⟩, ⟨?_, ?_, ?_⟩, ⟨?_, ?_, ?_⟩, d, ?_, fun q hq => ?_⟩
  · rw [va_up_n (by omega)]; exact (a q hq).1
  · rw [va_up_n (by omega)]; exact (a q hq).2.2.1
  · rw [u2_row (by omega), va_up_n (by omega)]; exact (a q hq).2.2.2 hne
  · rw [u2_row (by omega), va_up_n (by omega)]; exact b0
  · rw [u2_row (by omega), va_up_n (by omega)]; exact b1
  · rw [u2_row (by omega), va_up_n (by omega)]; exact b2
  · rw [va_up_n (by omega)]; exact c1
  · rw [va_up_n (by omega)]; exact c2
  · rw [va_up_n (by omega)]; exact c3
  · rw [va_up_n (by omega)]; exact e
  · by_cases hqi : q = i
    · subst hqi
      exact ⟨va_up_s _ _ _, u2_s _ _ _ _⟩
    · obtain ⟨g1, g2⟩ := g q (by omega)
      exact ⟨by rw [va_up_n (by omega)]; exact g1, by rw [u2_k hqi, va_up_n (by omega)]; exact g2⟩
theorem Iv4.sh {G : GG} {t : Nat} {K N : Nat → Nat} {I : MI} {R : MR} {K2 N2 : Nat → Nat} {I2 : MI} {R2 : MR} (h : Iv4 t 6 K N I R K2 N2 I2 R2) (hk : zK G (t + 1) K t 4) : ShT G (t + 4 + 6) K2 N2 R2 t := by
  obtain ⟨a, b, ⟨c1, c2, c3⟩, d, e, g⟩ := h
  have h0 := hk.1
  exact ⟨⟨h0, by omega, by rw [(a t (by omega)).1]; exact hk.2.2⟩, b, ⟨⟨by omega, by omega, c1⟩, ⟨by omega, by omega, c2⟩, ⟨by omega, by omega, c3⟩⟩, d, fun i hi => ⟨⟨by omega, by omega, (g i hi).1⟩, (g i hi).2⟩⟩
/-- a new tester at t, its rows made behind it -/
def P4 (G : GG) (t : Nat) (K N : Nat → Nat) (I : MI) (R : MR) (z' : Nat) (K' N' : Nat → Nat) (I' : MI) (R' : MR) : Prop :=
  z' = t + 10 ∧ (∀ a : Nat, a < t + 1 → K' a = K a ∧ N' a = N a ∧ I' a = I a ∧ (a ≠ t → R' a = R a)) ∧ ShT G z' K' N' R' t ∧ I' (t + 1) = zF0
set_option maxHeartbeats 4000000 in
set_option maxRecDepth 100000 in
theorem mX1_init (l : Launch) (G : GG) {z : Nat} {K N : Nat → Nat} {I : MI} {R : MR} {a : Nat} : Cod l G yX1_init (Cond.code yX1_init cX1_init 1 none :: wsL_law) ⟨1, 0, 0, 20⟩ [.ref a] z K N I R none I R := by
  refine Con.of (own := RX1) (cc := cX1_init) (maxL := 1) (ret := none) (by decide +kernel) rfl rfl (Nat.le_of_ble_eq_true rfl) (by decide) rfl ?_
  intro p e9 s mt args below meth c Q hin hQ C
  refine z_aload_n C dX1_init_0 rfl ?_
  refine z_objInit C wq_3_1 wq_1_11 wq_1_12 dX1_init_1 (Nat.le_of_ble_eq_true rfl) (Nat.le_of_ble_eq_true rfl) ?_
  exact z_vret2 C hQ rfl dX1_init_4 ⟨rfl, rfl, rfl, rfl, rfl, rfl⟩

set_option maxHeartbeats 4000000 in
set_option maxRecDepth 100000 in
theorem mX4_init (l : Launch) (G : GG) {z : Nat} {K N : Nat → Nat} {I : MI} {R : MR} {t : Nat} (hz : z = t + 1) (hk : zK G z K t 4) : Con l G yX4_init (Cond.code yX4_init cX4_init 2 none :: wsL_law) ⟨2, 9, 53, 40⟩ 9 53 [.ref t] z K N I R (fun r z' K' N' I' R' => r = none ∧ P4 G t K N I R z' K' N' I' R') := by
  refine Con.of (own := RX4) (cc := cX4_init) (maxL := 2) (ret := none) (by decide +kernel) rfl rfl (Nat.le_of_ble_eq_true rfl) (by decide) rfl ?_
  intro p e9 s mt args below meth c Q hin hQ C
  subst hz
  have h0 := hk.1
  have hloop : ∀ (q : Nat) (i : Nat) (K2 N2 : Nat → Nat) (I2 : MI) (R2 : MR), i ≤ 6 → 6 - i < q → Iv4 t i K N I R K2 N2 I2 R2 → Zq p l e9 ⟨2, 9, 53, 40⟩ s mt args below meth c G 2 Q (3 + i) (23 + 5 * i) (t + 4 + i) K2 N2 I2 R2 36 [(0, .ref t), (1, .int (zI (i : Int)))] [] := by
    intro q
    induction q with
    | zero => intro i K2 N2 I2 R2 h1 h2; exact absurd h2 (by omega)
    | succ q ih =>
      intro i K2 N2 I2 R2 h1 h2 hI
      have hI9 := hI
      obtain ⟨i1, ⟨i2, i3, i4⟩, ⟨i5, i6, i7⟩, ⟨i8, i9, i10⟩, i11, i12⟩ := hI9
      have hkt : zK G (t + 4 + i) K2 t 4 := ⟨hk.1, by omega, by rw [(i1 t (by omega)).1]; exact hk.2.2⟩
      have hk3 : zK G (t + 4 + i) K2 (t + 3) 10 := ⟨by omega, by omega, i7⟩
      refine z_iload_n C dX4_init_36 rfl ?_
      refine z_bipush C dX4_init_37 (by decide) ?_
      refine z_icmp_ge C (tgt := 61) dX4_init_39 (by decide) (by first | omega | exact b2i_r) (by first | omega | exact b2i_r) (fun h39 => ?_) (fun h39 => ?_)
      · refine z_widen (k := 9) (n := 53) (by omega) (by omega) ?_
        obtain rfl : i = 6 := by omega
        exact z_vret2 C hQ rfl dX4_init_61 ⟨rfl, rfl, i1, hI.sh hk, i11⟩
      · refine z_aload_n C dX4_init_42 rfl ?_
        refine z_gR C (ci := 4) (k := 2) rfl (by decide) rfl (by decide) wl_4 wq_2_20 (by decide) dX4_init_43 (by assumption) (by assumption) ?_
        refine z_iload_n C dX4_init_46 rfl ?_
        refine z_new C 1 (C0 := RX1) (T0 := TX1) (N0 := 5) rfl (by decide) rfl tyX1_ok dfv_1 wl_1 wq_2_19 wq_2_21 wq_2_22 dX4_init_47 (by show 3 + i + 1 ≤ 9; omega) (by show 23 + 5 * i + 5 ≤ 53; omega) ?_
        have hk9 := zK_up 1 hk3
        have hk8 : zK G (t + 4 + i + 1) (va_up K2 (t + 4 + i) 1) (t + 4 + i) 1 := zK_new 1 (by omega)
        refine z_dup C dX4_init_50 rfl ?_
        refine z_callINd C (host := RX6) (mX1_init l G (a := t + 4 + i)) ⟨va_cnB 0 C.2.2.2.2.1 gn_X1_init rfl rfl rfl (znw C.2.2.2.2.2.2.2.1 6 rfl) (C.2.2.2.2.1 _ wq_2_22) hs_X1_init ⟨Nat.le_of_ble_eq_true rfl, Nat.le_of_ble_eq_true rfl⟩, rfl, C.2.2.2.2.1 _ wq_2_23⟩ rfl rfl (Nat.le_of_ble_eq_true rfl) dX4_init_51 ⟨by show 3 + i + 1 ≤ 9; omega, by show 23 + 5 * i + 5 ≤ 53; omega⟩ ?_
        refine z_aast C 10 1 (Or.inl ⟨rfl, rfl⟩) (by decide) rfl dX4_init_54 hk9 hk8 (by rw [i10]; omega) (by omega) ?_
        refine z_iinc C dX4_init_55 rfl (by decide) rfl ?_
        refine z_goto C (tgt := 36) dX4_init_58 (by decide) ?_
        rw [show (i : Int) + 1 = ((i + 1 : Nat) : Int) by omega]
        exact ih (i + 1) _ _ _ _ (by omega) (by omega) hI.s
  refine z_aload_n C dX4_init_0 rfl ?_
  refine z_objInit C wq_2_9 wq_1_11 wq_1_12 dX4_init_1 (Nat.le_of_ble_eq_true rfl) (Nat.le_of_ble_eq_true rfl) ?_
  refine z_aload_n C dX4_init_4 rfl ?_
  refine z_gets0 C (f := zF0) C.2.2.2.2.2.2.2.1.2.1.1 (Or.inr (va_tabs rfl rfl (C.2.2.2.2.2.2.2.1.2.2.1 _ (List.mem_of_getElem? (i := 0) rfl)))) dX4_init_5 (fun tq5 hq5 => ?_)
  refine z_sclone C hq5 clw_X4 dX4_init_8 (Nat.le_of_ble_eq_true rfl) (Nat.le_of_ble_eq_true rfl) (Nat.le_of_ble_eq_true rfl) (Nat.le_of_ble_eq_true rfl) ?_
  have q1 := zK_up 9 hk
  have q2 : zK G (t + 1 + 1) (va_up K (t + 1) 9) (t + 1) 9 := zK_new 9 (by omega)
  refine z_castA C dX4_init_11 wq_2_15 q2 ?_
  refine z_pR (r := some _) C (ci := 4) (k := 0) rfl (by decide) rfl (by decide) tyX4_ok nmX4 wl_4 wq_2_16 (by decide) (fun r => by cases r <;> exact ⟨rfl, rfl⟩) (Or.inr ⟨rfl, hin rfl, rfl⟩) dX4_init_14 (by assumption) ?_
  refine z_aload_n C dX4_init_17 rfl ?_
  refine z_bipush C dX4_init_18 (by decide) ?_
  refine z_newa C dX4_init_20 wq_2_17 (by omega) (Nat.le_of_ble_eq_true rfl) (Nat.le_of_ble_eq_true rfl) ?_
  have q3 := zK_up 9 q1
  rw [show (14 : Int).toNat = 14 from rfl]
  refine z_pR (r := some _) C (ci := 4) (k := 1) rfl (by decide) rfl (by decide) tyX4_ok nmX4 wl_4 wq_2_18 (by decide) (fun r => by cases r <;> exact ⟨rfl, rfl⟩) (Or.inr ⟨rfl, hin rfl, rfl⟩) dX4_init_22 (by assumption) ?_
  refine z_aload_n C dX4_init_25 rfl ?_
  refine z_bipush C dX4_init_26 (by decide) ?_
  refine z_anew C 10 (Or.inl ⟨rfl, rfl⟩) dX4_init_28 wq_2_19 (by omega) (Nat.le_of_ble_eq_true rfl) (Nat.le_of_ble_eq_true rfl) ?_
  have q4 := zK_up 10 q3
  rw [show (6 : Int).toNat = 6 from rfl]
  refine z_pR (r := some _) C (ci := 4) (k := 2) rfl (by decide) rfl (by decide) tyX4_ok nmX4 wl_4 wq_2_20 (by decide) (fun r => by cases r <;> exact ⟨rfl, rfl⟩) (Or.inr ⟨rfl, hin rfl, rfl⟩) dX4_init_31 (by assumption) ?_
  refine z_iconst C dX4_init_34 ?_
  refine z_istore_n C dX4_init_35 (by decide) rfl ?_
  refine hloop 7 0 _ _ _ _ (by omega) (by omega) ⟨fun a ha => ⟨?_, ?_, ?_, fun hne => ?_⟩, ⟨?_, ?_, ?_⟩, ⟨?_, ?_, ?_⟩, ⟨?_, ?_, ?_⟩, ?_, fun q hq => absurd hq (by omega)⟩
  · exact (by simp only [va_up, u2]; (repeat first | rw [if_neg (by omega)] | rw [if_pos (by omega)] | simp only [u2]); first | done | rfl | assumption)
  · exact (by simp only [va_up, u2]; (repeat first | rw [if_neg (by omega)] | rw [if_pos (by omega)] | simp only [u2]); first | done | rfl | assumption)
  · exact (by simp only [va_up, u2]; (repeat first | rw [if_neg (by omega)] | rw [if_pos (by omega)] | simp only [u2]); first | done | rfl | assumption)
  · rw [u2_row hne, va_up_n (by omega), u2_row hne, u2_row hne]
  · exact (by simp only [va_up, u2]; (repeat first | rw [if_neg (by omega)] | rw [if_pos (by omega)] | simp only [u2]); first | done | rfl | assumption)
  · exact (by simp only [va_up, u2]; (repeat first | rw [if_neg (by omega)] | rw [if_pos (by omega)] | simp only [u2]); first | done | rfl | assumption)
  · exact (by simp only [va_up, u2]; (repeat first | rw [if_neg (by omega)] | rw [if_pos (by omega)] | simp only [u2]); first | done | rfl | assumption)
  · exact (by simp only [va_up, u2]; (repeat first | rw [if_neg (by omega)] | rw [if_pos (by omega)] | simp only [u2]); first | done | rfl | assumption)
  · exact (by simp only [va_up, u2]; (repeat first | rw [if_neg (by omega)] | rw [if_pos (by omega)] | simp only [u2]); first | done | rfl | assumption)
  · exact (by simp only [va_up, u2]; (repeat first | rw [if_neg (by omega)] | rw [if_pos (by omega)] | simp only [u2]); first | done | rfl | assumption)
  · exact (by simp only [va_up, u2]; (repeat first | rw [if_neg (by omega)] | rw [if_pos (by omega)] | simp only [u2]); first | done | rfl | assumption)
  · exact (by simp only [va_up, u2]; (repeat first | rw [if_neg (by omega)] | rw [if_pos (by omega)] | simp only [u2]); first | done | rfl | assumption)
  · exact (by simp only [va_up, u2]; (repeat first | rw [if_neg (by omega)] | rw [if_pos (by omega)] | simp only [u2]); first | done | rfl | assumption)
  · exact (by simp only [va_up, u2]; (repeat first | rw [if_neg (by omega)] | rw [if_pos (by omega)] | simp only [u2]); first | done | rfl | assumption)

