def apR (P g : Nat → Int) (n k j : Nat) : Nat → Int := fun a => if (g 2).toNat ≤ a ∧ a < (g 2).toNat + (k - j) then (by8 n (k - 1 - (a - (g 2).toNat)) : Int) else P a
def apM (I : MI) (b : Nat) (nu g : Nat → Int) (n k j : Nat) : MI := va_up (PM I b nu (st1 g 2 (g 2 + ((k - j : Nat) : Int)))) (b + 2) (apR (I (b + 2)) g n k j)
theorem apM_b (I : MI) (b : Nat) (nu g : Nat → Int) (n k j : Nat) : apM I b nu g n k j b 2 = g 2 + ((k - j : Nat) : Int) := by
  unfold apM
  rw [va_up_n (by omega), PM_b, st1_s]
theorem apM_0 (I : MI) (b : Nat) (nu g : Nat → Int) (n k : Nat) : apM I b nu g n k k = PM I b nu g := by
  unfold apM
  rw [Nat.sub_self]
  have e1 : st1 g 2 (g 2 + ((0 : Nat) : Int)) = g := by
    funext j
    unfold st1
    split
    · rename_i h; rw [h]; omega
    · rfl
  have e2 : apR (I (b + 2)) g n k k = PM I b nu g (b + 2) := by
    funext a
    rw [PM_n _ _ _ _ _ (by omega) (by omega)]
    unfold apR
    rw [Nat.sub_self, if_neg (by omega)]
  rw [e1, e2, va_upS]
theorem apM_s (I : MI) (b : Nat) (nu g : Nat → Int) (n k j : Nat) (hj : j + 1 ≤ k) : u2 (u2 (apM I b nu g n k (j + 1)) (b + 2) ((g 2).toNat + (k - (j + 1))) (by8 n j : Int)) b 2 (g 2 + ((k - (j + 1) : Nat) : Int) + 1) = apM I b nu g n k j := by
  unfold apM
  funext a i
  by_cases hb : a = b
  · subst hb
    by_cases hi : i = 2
    · subst hi; rw [u2_s, va_up_n (by omega), PM_b, st1_s]; omega
    · rw [u2_k hi, u2_row (by omega), va_up_n (by omega), va_up_n (by omega), PM_b, PM_b, st1_n hi, st1_n hi]
  · rw [u2_row hb]
    by_cases hc : a = b + 2
    · subst hc
      rw [va_up_s]
      by_cases hi : i = (g 2).toNat + (k - (j + 1))
      · subst hi
        rw [u2_s]
        unfold apR
        rw [if_pos (by omega), show k - 1 - ((g 2).toNat + (k - (j + 1)) - (g 2).toNat) = j by omega]
      · rw [u2_k hi, va_up_s]
        unfold apR
        by_cases h1 : (g 2).toNat ≤ i ∧ i < (g 2).toNat + (k - (j + 1))
        · rw [if_pos h1, if_pos (by omega)]
        · rw [if_neg h1, if_neg (by omega)]
    · rw [u2_row hc, va_up_n hc, va_up_n hc]
      by_cases h1 : a = b + 1
      · subst h1; rw [PM_1, PM_1]
      · rw [PM_n _ _ _ _ _ hb h1, PM_n _ _ _ _ _ hb h1]
theorem lenB_le (n : Nat) : ∀ q k : Nat, lenB n q k ≤ q + k
  | 0, k => by show k ≤ 0 + k; omega
  | q + 1, k => by
    rw [lenB_s]
    split
    · omega
    · have := lenB_le n q (k + 1); omega
set_option maxHeartbeats 4000000 in
set_option maxRecDepth 100000 in
theorem mX3_append (l : Launch) (G : GG) {z : Nat} {K N : Nat → Nat} {I : MI} {R : MR} {b : Nat} (hM : ShP G z K N R b) {nu g : Nat → Int} (hT : TOk (I (b + 2)) (md g)) {n : Nat} (hn : n < 2 ^ 64) : Cod l G yX3_append (Cond.code yX3_append cX3_append 5 (some .int) :: wsL_law) ⟨1, 0, 0, 24⟩ [.ref b, .long (zU n)] z K N (PM I b nu g) R (some (.int (zI (if putBad n then -2 else if 80 < g 2 + (putK n : Int) then -4 else g 2 + (putK n : Int))))) (if ¬ putBad n ∧ g 2 + (putK n : Int) ≤ 80 then apM I b nu g n (putK n) 0 else (PM I b nu g)) R := by
  refine Con.of (own := RX3) (cc := cX3_append) (maxL := 5) (ret := (some .int)) (by decide +kernel) rfl rfl (Nat.le_of_ble_eq_true rfl) (by decide) rfl ?_
  intro p e9 s mt args below meth c Q hin hQ C
  obtain ⟨ho, ⟨r0, r3⟩, ⟨k1, k2⟩, n1, n2⟩ := id hM
  have hT9 := id hT
  obtain ⟨t6, tP, t11⟩ := hT9
  rw [md_6] at t6 t11
  rw [md_11] at t11
  have hK8 : putK n ≤ 8 := lenB_le n 8 0
  have hloop : ∀ (k : Nat), ¬ putBad n → putK n = k → g 2 + (k : Int) ≤ 80 → k ≤ 8 → ∀ (q : Nat) (j : Nat), j ≤ k → j < q → Zq p l e9 ⟨1, 0, 0, 24⟩ s mt args below meth c G 5 Q 0 0 z K N (apM I b nu g n k j) R 31 [(0, .ref b), (1, .long (zU n)), (3, .int (zI (k : Int))), (4, .int (zI ((j : Int) - 1)))] [] := by
    intro k hbad hkk hcase hk8 q
    induction q with
    | zero => intro j h1 h2; exact absurd h2 (by omega)
    | succ q ih =>
      intro j h1 h2
      refine z_iload C dX3_append_31 rfl ?_
      refine z_if_lt C (tgt := 74) dX3_append_33 (by decide) (by first | omega | exact b2i_r) (fun h33 => ?_) (fun h33 => ?_)
      · refine z_aload_n C dX3_append_74 rfl ?_
        refine z_gI C (ci := 3) (k := 2) rfl (by decide) rfl (by decide) wl_3 wq_25_16 rfl dX3_append_75 (by assumption) ?_
        rw [show j = 0 by omega, apM_b]
        exact z_iret2 C hQ rfl dX3_append_78 ⟨zr (by rw [if_neg hbad, hkk, if_neg (by omega)]; omega), rfl, rfl, rfl, by rw [if_pos ⟨hbad, by rw [hkk]; exact hcase⟩, hkk], rfl⟩
      · have hj1 : 1 ≤ j := by omega
        obtain ⟨j, rfl⟩ : ∃ i, j = i + 1 := ⟨j - 1, by omega⟩
        have hb8 := by8_lt n j
        have hdn : n / 2 ^ (8 * j) ≤ n := Nat.div_le_self _ _
        rw [show (((j + 1 : Nat) : Int) - 1) = (j : Int) by omega]
        refine z_aload_n C dX3_append_36 rfl ?_
        refine z_gR C (ci := 3) (k := 3) rfl (by decide) rfl (by decide) wl_3 wq_3_22 (by decide) dX3_append_37 (by assumption) (by assumption) ?_
        refine z_aload_n C dX3_append_40 rfl ?_
        refine z_gI C (ci := 3) (k := 2) rfl (by decide) rfl (by decide) wl_3 wq_25_16 rfl dX3_append_41 (by assumption) ?_
        rw [apM_b]
        refine z_lload_n C dX3_append_44 rfl ?_
        refine z_bipush C dX3_append_45 (by decide) ?_
        refine z_iload C dX3_append_47 rfl ?_
        refine z_imul C dX3_append_49 ?_
        rw [show (8 : Int) * (j : Int) = ((8 * j : Nat) : Int) by omega]
        refine z_lushr C (by omega) (by omega) dX3_append_50 ?_
        refine z_ldc2 C 255 (by decide) dX3_append_51 wq_25_17 ?_
        refine z_land C 8 rfl (by decide) (by omega) dX3_append_54 ?_
        rw [show n / 2 ^ (8 * j) % 2 ^ 8 = by8 n j from rfl]
        refine z_l2i C (by omega) dX3_append_55 ?_
        refine z_i2c C (by omega) dX3_append_56 ?_
        refine z_castk C ((g 2).toNat + (k - (j + 1))) dX3_append_57 (by assumption) (by first | rfl | omega) (by omega) (by omega) (by omega) ?_
        refine z_aload_n C dX3_append_58 rfl ?_
        refine z_dup C dX3_append_59 rfl ?_
        refine z_gI C (ci := 3) (k := 2) rfl (by decide) rfl (by decide) wl_3 wq_25_16 rfl dX3_append_60 (by assumption) ?_
        rw [u2_row (by omega), apM_b]
        refine z_iconst C dX3_append_63 ?_
        refine z_iadd C dX3_append_64 ?_
        refine z_pI C (ci := 3) (k := 2) rfl (by decide) rfl (by decide) tyX3_ok nmX3 wl_3 wq_25_16 rfl (Or.inl rfl) dX3_append_65 (by assumption) ?_
        refine z_iinc C dX3_append_68 rfl (by decide) rfl ?_
        refine z_goto C (tgt := 31) dX3_append_71 (by decide) ?_
        rw [show (j : Int) + -1 = (j : Int) - 1 by omega]
        exact z_mem (apM_s I b nu g n k j (by omega)) rfl (ih j (by omega) (by omega))
  refine z_lload_n C dX3_append_0 rfl ?_
  refine z_callSd C (mX3_howMany l G hn) (va_cwS 1 C.2.2.2.2.1 gv3_19 rfl rfl rfl hs_X3_howMany ⟨Nat.le_of_ble_eq_true rfl, Nat.le_of_ble_eq_true rfl⟩) rfl rfl (Nat.le_of_ble_eq_true rfl) dX3_append_1 ⟨Nat.zero_le _, Nat.zero_le _⟩ ?_
  obtain ⟨m9, hm9⟩ : ∃ m9 : Nat, hoM n = (m9 : Int) := by
    unfold hoM
    split
    · exact ⟨0, rfl⟩
    · exact ⟨_, rfl⟩
  rw [hm9]
  have hm8 : (putBad n ∧ m9 = 0) ∨ (¬ putBad n ∧ putK n = m9) := by
    by_cases z : putBad n
    · have h9 : hoM n = 0 := if_pos z
      exact Or.inl ⟨z, by omega⟩
    · have h9 : hoM n = (putK n : Int) := if_neg z
      exact Or.inr ⟨z, by omega⟩
  refine z_istore_n C dX3_append_4 (by decide) rfl ?_
  refine z_iload_n C dX3_append_5 rfl ?_
  refine z_if_ne C (tgt := 12) dX3_append_6 (by decide) (by first | omega | exact b2i_r) (fun h6 => ?_) (fun h6 => ?_)
  · have hbad : ¬ putBad n := by
      rcases hm8 with z | z
      · exfalso; omega
      · exact z.1
    have hkk : putK n = m9 := by
      rcases hm8 with z | z
      · exact absurd z.1 hbad
      · exact z.2
    refine z_aload_n C dX3_append_12 rfl ?_
    refine z_gI C (ci := 3) (k := 2) rfl (by decide) rfl (by decide) wl_3 wq_25_16 rfl dX3_append_13 (by assumption) ?_
    rw [PM_b]
    refine z_iload_n C dX3_append_16 rfl ?_
    refine z_iadd C dX3_append_17 ?_
    refine z_bipush C dX3_append_18 (by decide) ?_
    refine z_icmp_le C (tgt := 26) dX3_append_20 (by decide) (by first | omega | exact b2i_r) (by first | omega | exact b2i_r) (fun h20 => ?_) (fun h20 => ?_)
    · refine z_iload_n C dX3_append_26 rfl ?_
      refine z_iconst C dX3_append_27 ?_
      refine z_isub C dX3_append_28 ?_
      refine z_istore C dX3_append_29 (by decide) rfl ?_
      refine z_conv (I' := apM I b nu g n m9 m9) (lv' := [(0, .ref b), (1, .long (zU n)), (3, .int (zI (m9 : Int))), (4, .int (zI ((m9 : Int) - 1)))]) (apM_0 _ _ _ _ _ _).symm rfl rfl rfl ?_
      exact hloop m9 hbad hkk (by omega) (by omega) (m9 + 1) m9 (Nat.le_refl m9) (by omega)
    · have hI9 : ¬ (¬ putBad n ∧ g 2 + (putK n : Int) ≤ 80) := fun z => by have := z.2; rw [hkk] at this; omega
      refine z_bipush C dX3_append_23 (by decide) ?_
      exact z_iret2 C hQ rfl dX3_append_25 ⟨zr (by first | exact (if_pos hbad).symm | (rw [if_neg hbad, hkk, if_pos (by omega)])), rfl, rfl, rfl, (if_neg hI9).symm, rfl⟩
  · have hbad : putBad n := by
      rcases hm8 with z | z
      · exact z.1
      · exact Or.inl (by omega)
    have hI9 : ¬ (¬ putBad n ∧ g 2 + (putK n : Int) ≤ 80) := fun z => z.1 hbad
    refine z_bipush C dX3_append_9 (by decide) ?_
    exact z_iret2 C hQ rfl dX3_append_11 ⟨zr (by first | exact (if_pos hbad).symm | (rw [if_neg hbad, hkk, if_pos (by omega)])), rfl, rfl, rfl, (if_neg hI9).symm, rfl⟩

