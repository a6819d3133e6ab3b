theorem lk_out5 {a a1 a2 a3 a4 a5 o1 o2 o3 o4 o5 d : Int} (h : ¬ a = a1 ∧ ¬ a = a2 ∧ ¬ a = a3 ∧ ¬ a = a4 ∧ ¬ a = a5) : Op.lookupswitch.offset [(a1, o1), (a2, o2), (a3, o3), (a4, o4), (a5, o5)] d a = d := by
  obtain ⟨h1, h2, h3, h4, h5⟩ := h
  simp [Op.lookupswitch.offset, h1, h2, h3, h4, h5, Ne.symm h1, Ne.symm h2, Ne.symm h3, Ne.symm h4, Ne.symm h5]
theorem lk_out6 {a a1 a2 a3 a4 a5 a6 o1 o2 o3 o4 o5 o6 d : Int} (h : ¬ a = a1 ∧ ¬ a = a2 ∧ ¬ a = a3 ∧ ¬ a = a4 ∧ ¬ a = a5 ∧ ¬ a = a6) : Op.lookupswitch.offset [(a1, o1), (a2, o2), (a3, o3), (a4, o4), (a5, o5), (a6, o6)] d a = d := by
  obtain ⟨h1, h2, h3, h4, h5, h6⟩ := h
  simp [Op.lookupswitch.offset, h1, h2, h3, h4, h5, h6, Ne.symm h1, Ne.symm h2, Ne.symm h3, Ne.symm h4, Ne.symm h5, Ne.symm h6]
/-! the pad: what put(l) does, l a number below 2^64 -/
def by8 (n k : Nat) : Nat := n / 2 ^ (8 * k) % 2 ^ 8
theorem by8_lt (n k : Nat) : by8 n k < 256 := Nat.mod_lt _ (by decide)
def okB (n : Nat) : Nat → Int
  | 0 => 1
  | k + 1 => if ¬ okB n k = 0 ∧ 33 ≤ (by8 n k : Int) ∧ (by8 n k : Int) ≤ 126 then 1 else 0
theorem okB_s (n k : Nat) : okB n (k + 1) = if ¬ okB n k = 0 ∧ 33 ≤ (by8 n k : Int) ∧ (by8 n k : Int) ≤ 126 then 1 else 0 := rfl
theorem okB_r (n k : Nat) : 0 ≤ okB n k ∧ okB n k ≤ 1 := by
  cases k with
  | zero => show 0 ≤ (1 : Int) ∧ (1 : Int) ≤ 1; omega
  | succ k => rw [okB_s]; split <;> omega
def lenB (n : Nat) : Nat → Nat → Nat
  | 0, k => k
  | q + 1, k => if by8 n k = 0 then k else lenB n q (k + 1)
theorem lenB_s (n q k : Nat) : lenB n (q + 1) k = if by8 n k = 0 then k else lenB n q (k + 1) := rfl
def putK (n : Nat) : Nat := lenB n 8 0
abbrev putBad (n : Nat) : Prop := putK n = 0 ∨ okB n (putK n) = 0 ∨ ¬ n / 2 ^ (8 * putK n) = 0
def padM (I : MI) (o n k j : Nat) : MI := u2 (va_up I (o + 5) (fun a => if (I o 6).toNat ≤ a ∧ a < (I o 6).toNat + (k - j) then (by8 n (k - 1 - (a - (I o 6).toNat)) : Int) else I (o + 5) a)) o 6 (I o 6 + ((k - j : Nat) : Int))
theorem padM_6 (I : MI) (o n k j : Nat) : padM I o n k j o 6 = I o 6 + ((k - j : Nat) : Int) := by unfold padM; rw [u2_s]
theorem padM_0 (I : MI) (o n k : Nat) : padM I o n k k = I := by
  unfold padM
  funext b j
  rw [Nat.sub_self]
  by_cases hb : b = o
  · subst hb
    by_cases hj : j = 6
    · subst hj; rw [u2_s]; omega
    · rw [u2_k hj, va_up_n (by omega)]
  · rw [u2_row hb]
    by_cases hc : b = o + 5
    · subst hc; rw [va_up_s, if_neg (by omega)]
    · rw [va_up_n hc]
theorem padM_s (I : MI) (o n k j : Nat) (hj : j + 1 ≤ k) : u2 (u2 (padM I o n k (j + 1)) (o + 5) ((I o 6).toNat + (k - (j + 1))) (by8 n j : Int)) o 6 (I o 6 + ((k - (j + 1) : Nat) : Int) + 1) = padM I o n k j := by
  unfold padM
  funext b i
  by_cases hb : b = o
  · subst hb
    by_cases hi : i = 6
    · subst hi; rw [u2_s, u2_s]; omega
    · rw [u2_k hi, u2_row (by omega), u2_k hi, va_up_n (by omega), u2_k hi, va_up_n (by omega)]
  · rw [u2_row hb]
    by_cases hc : b = o + 5
    · subst hc
      rw [u2_row hb, va_up_s]
      by_cases hi : i = (I o 6).toNat + (k - (j + 1))
      · subst hi
        rw [u2_s, if_pos (by omega), show k - 1 - ((I o 6).toNat + (k - (j + 1)) - (I o 6).toNat) = j by omega]
      · rw [u2_k hi, u2_row hb, va_up_s]
        by_cases h1 : (I o 6).toNat ≤ i ∧ i < (I o 6).toNat + (k - (j + 1))
        · rw [if_pos h1, if_pos (by omega)]
        · rw [if_neg h1, if_neg (by omega)]
    · rw [u2_row hc, u2_row hb, u2_row hb, va_up_n hc, va_up_n hc]
set_option maxHeartbeats 4000000 in
set_option maxRecDepth 100000 in
theorem mX7_put (l : Launch) (G : GG) {z : Nat} {K N : Nat → Nat} {I : MI} {R : MR} {o : Nat} (hM : ShM G z K N R o) {n : Nat} (hn : n < 2 ^ 64) (hP : 0 ≤ I o 6 ∧ I o 6 ≤ 80) : Cod l G yX7_put (Cond.code yX7_put cX7_put 8 (some .int) :: wsL_law) ⟨1, 0, 0, 22⟩ [.ref o, .long (zU n)] z K N I R (some (.int (zI (if putBad n then -2 else if 80 < I o 6 + (putK n : Int) then -4 else I o 6 + (putK n : Int))))) (if ¬ putBad n ∧ I o 6 + (putK n : Int) ≤ 80 then padM I o n (putK n) 0 else I) R := by
  refine Con.of (own := RX7) (cc := cX7_put) (maxL := 8) (ret := (some .int)) (by decide +kernel) rfl rfl (Nat.le_of_ble_eq_true rfl) (by decide) rfl ?_
  intro p e9 s mt args below meth c Q hin hQ C
  obtain ⟨ho, ⟨r0, r1, r3, r4, r5, r7, r8⟩, ⟨k1, k2, k3, k4, k5, k6, k7⟩, n1, n2, n3, n4, n5, n6, n7⟩ := id hM
  have hloop2 : ∀ (k : Nat), ¬ putBad n → putK n = k → I o 6 + (k : Int) ≤ 80 → k ≤ 8 → ∀ (q : Nat) (j : Nat), j ≤ k → j < q → Zq p l e9 ⟨1, 0, 0, 22⟩ s mt args below meth c G 8 Q 0 0 z K N (padM I o n k j) R 105 [(0, .ref o), (1, .long (zU n)), (3, .int (zI (k : Int))), (7, .int (zI ((j : Int) - 1)))] [] := by
    intro k hbad hkk hcase hk8 q
    induction q with
    | zero => intro j h1 h2; exact absurd h2 (by omega)
    | succ q ih =>
      intro j h1 h2
      refine z_iload C dX7_put_105 rfl ?_
      refine z_if_lt C (tgt := 147) dX7_put_107 (by decide) (by first | omega | exact b2i_r) (fun h107 => ?_) (fun h107 => ?_)
      · refine z_aload_n C dX7_put_147 rfl ?_
        refine z_gI C (ci := 7) (k := 6) rfl (by decide) rfl (by decide) wl_7 wq_22_5 rfl dX7_put_148 (by assumption) ?_
        rw [show j = 0 by omega, padM_6]
        exact z_iret2 C hQ rfl dX7_put_151 ⟨zr (by rw [if_neg hbad, hkk, if_neg (by omega)]; omega), rfl, rfl, rfl, by rw [if_pos ⟨hbad, by rw [hkk]; exact hcase⟩, hkk], rfl⟩
      · have hj1 : 1 ≤ j := by omega
        obtain ⟨j, rfl⟩ : ∃ i, j = i + 1 := ⟨j - 1, by omega⟩
        have hb8 := by8_lt n j
        have hdn : n / 2 ^ (8 * j) ≤ n := Nat.div_le_self _ _
        rw [show (((j + 1 : Nat) : Int) - 1) = (j : Int) by omega]
        refine z_aload_n C dX7_put_110 rfl ?_
        refine z_gR C (ci := 7) (k := 5) rfl (by decide) rfl (by decide) wl_7 wq_4_7 (by decide) dX7_put_111 (by assumption) (by assumption) ?_
        refine z_aload_n C dX7_put_114 rfl ?_
        refine z_gI C (ci := 7) (k := 6) rfl (by decide) rfl (by decide) wl_7 wq_22_5 rfl dX7_put_115 (by assumption) ?_
        rw [padM_6]
        refine z_lload_n C dX7_put_118 rfl ?_
        refine z_bipush C dX7_put_119 (by decide) ?_
        refine z_iload C dX7_put_121 rfl ?_
        refine z_imul C dX7_put_123 ?_
        rw [show (8 : Int) * (j : Int) = ((8 * j : Nat) : Int) by omega]
        refine z_lushr C (by omega) (by omega) dX7_put_124 ?_
        refine z_ldc2 C 255 (by decide) dX7_put_125 wq_26_3 ?_
        refine z_land C 8 rfl (by decide) (by omega) dX7_put_128 ?_
        rw [show n / 2 ^ (8 * j) % 2 ^ 8 = by8 n j from rfl]
        refine z_l2i C (by omega) dX7_put_129 ?_
        refine z_iastk C ((I o 6).toNat + (k - (j + 1))) dX7_put_130 (by assumption) (by first | rfl | omega) (by omega) (by omega) ?_
        refine z_aload_n C dX7_put_131 rfl ?_
        refine z_dup C dX7_put_132 rfl ?_
        refine z_gI C (ci := 7) (k := 6) rfl (by decide) rfl (by decide) wl_7 wq_22_5 rfl dX7_put_133 (by assumption) ?_
        rw [u2_row (by omega), padM_6]
        refine z_iconst C dX7_put_136 ?_
        refine z_iadd C dX7_put_137 ?_
        refine z_pI C (ci := 7) (k := 6) rfl (by decide) rfl (by decide) tyX7_ok nmX7 wl_7 wq_22_5 rfl (Or.inl rfl) dX7_put_138 (by assumption) ?_
        refine z_iinc C dX7_put_141 rfl (by decide) rfl ?_
        refine z_goto C (tgt := 105) dX7_put_144 (by decide) ?_
        rw [show (j : Int) + -1 = (j : Int) - 1 by omega]
        exact z_mem (padM_s I o n k j (by omega)) rfl (ih j (by omega) (by omega))
  have hloop : ∀ (q : Nat) (k : Nat), k ≤ 8 → 8 - k < q → lenB n (8 - k) k = putK n → Zq p l e9 ⟨1, 0, 0, 22⟩ s mt args below meth c G 8 Q 0 0 z K N I R 8 [(4, .long (zU (n / 2 ^ (8 * k)))), (0, .ref o), (1, .long (zU n)), (3, .int (zI (k : Int))), (6, .int (zI (okB n k)))] [] := by
    intro q
    induction q with
    | zero => intro k h1 h2; exact absurd h2 (by omega)
    | succ q ih =>
      intro k h1 h2 hk
      have hb8 := by8_lt n k
      have hdn : n / 2 ^ (8 * k) ≤ n := Nat.div_le_self _ _
      have hob := okB_r n k
      refine z_iload_n C dX7_put_8 rfl ?_
      refine z_bipush C dX7_put_9 (by decide) ?_
      refine z_icmp_ge C (tgt := 67) dX7_put_11 (by decide) (by first | omega | exact b2i_r) (by first | omega | exact b2i_r) (fun h11 => ?_) (fun h11 => ?_)
      · have hkk : putK n = k := by
          rw [← hk]
          first
          | (rw [show k = 8 by omega]; rfl)
          | (rw [show 8 - k = (7 - k) + 1 by omega, lenB_s, if_pos ((cmU_0 _).mp h22)])
        refine z_iload_n C dX7_put_67 rfl ?_
        refine z_if_eq C (tgt := 83) dX7_put_68 (by decide) (by first | omega | exact b2i_r) (fun h68 => ?_) (fun h68 => ?_)
        · have hbad : putBad n := by
            show putK n = 0 ∨ okB n (putK n) = 0 ∨ ¬ n / 2 ^ (8 * putK n) = 0
            rw [hkk]
            first
            | exact Or.inl (by omega)
            | exact Or.inr (Or.inl h73)
            | exact Or.inr (Or.inr (fun z => h80 ((cmU_0 _).mpr z)))
          have hr9 : (-2 : Int) = (if putBad n then -2 else if 80 < I o 6 + (putK n : Int) then -4 else I o 6 + (putK n : Int)) := (if_pos hbad).symm
          have hI9 : ¬ (¬ putBad n ∧ I o 6 + (putK n : Int) ≤ 80) := fun z => z.1 hbad
          refine z_bipush C dX7_put_83 (by decide) ?_
          exact z_iret2 C hQ rfl dX7_put_85 ⟨zr hr9, rfl, rfl, rfl, (if_neg hI9).symm, rfl⟩
        · refine z_iload C dX7_put_71 rfl ?_
          refine z_if_eq C (tgt := 83) dX7_put_73 (by decide) (by first | omega | exact b2i_r) (fun h73 => ?_) (fun h73 => ?_)
          · have hbad : putBad n := by
              show putK n = 0 ∨ okB n (putK n) = 0 ∨ ¬ n / 2 ^ (8 * putK n) = 0
              rw [hkk]
              first
              | exact Or.inl (by omega)
              | exact Or.inr (Or.inl h73)
              | exact Or.inr (Or.inr (fun z => h80 ((cmU_0 _).mpr z)))
            have hr9 : (-2 : Int) = (if putBad n then -2 else if 80 < I o 6 + (putK n : Int) then -4 else I o 6 + (putK n : Int)) := (if_pos hbad).symm
            have hI9 : ¬ (¬ putBad n ∧ I o 6 + (putK n : Int) ≤ 80) := fun z => z.1 hbad
            refine z_bipush C dX7_put_83 (by decide) ?_
            exact z_iret2 C hQ rfl dX7_put_85 ⟨zr hr9, rfl, rfl, rfl, (if_neg hI9).symm, rfl⟩
          · refine z_lload C dX7_put_76 rfl ?_
            refine z_lconst C 0 rfl dX7_put_78 ?_
            refine z_lcmp C (by omega) (by omega) dX7_put_79 ?_
            have hc80 := cmU_rng (n / 2 ^ (8 * k)) 0
            refine z_if_eq C (tgt := 86) dX7_put_80 (by decide) (by first | omega | exact b2i_r) (fun h80 => ?_) (fun h80 => ?_)
            · refine z_aload_n C dX7_put_86 rfl ?_
              refine z_gI C (ci := 7) (k := 6) rfl (by decide) rfl (by decide) wl_7 wq_22_5 rfl dX7_put_87 (by assumption) ?_
              refine z_iload_n C dX7_put_90 rfl ?_
              refine z_iadd C dX7_put_91 ?_
              refine z_bipush C dX7_put_92 (by decide) ?_
              refine z_icmp_le C (tgt := 100) dX7_put_94 (by decide) (by first | omega | exact b2i_r) (by first | omega | exact b2i_r) (fun h94 => ?_) (fun h94 => ?_)
              · have hbad : ¬ putBad n := by
                  show ¬ (putK n = 0 ∨ okB n (putK n) = 0 ∨ ¬ n / 2 ^ (8 * putK n) = 0)
                  rw [hkk]
                  rintro (h | h | h)
                  · exact h68 (by omega)
                  · exact h73 h
                  · exact h ((cmU_0 _).mp h80)
                have hcase : I o 6 + (k : Int) ≤ 80 := by omega
                
                refine z_iload_n C dX7_put_100 rfl ?_
                refine z_iconst C dX7_put_101 ?_
                refine z_isub C dX7_put_102 ?_
                refine z_istore C dX7_put_103 (by decide) rfl ?_
                refine z_sub [1, 2, 3, 5] (lv' := [(0, .ref o), (1, .long (zU n)), (3, .int (zI (k : Int))), (7, .int (zI ((k : Int) - 1)))]) rfl rfl ?_
                refine z_conv (I' := padM I o n k k) (lv' := [(0, .ref o), (1, .long (zU n)), (3, .int (zI (k : Int))), (7, .int (zI ((k : Int) - 1)))]) (padM_0 _ _ _ _).symm rfl rfl rfl ?_
                exact hloop2 k hbad hkk hcase h1 (k + 1) k (Nat.le_refl k) (by omega)
              · have hbad : ¬ putBad n := by
                  show ¬ (putK n = 0 ∨ okB n (putK n) = 0 ∨ ¬ n / 2 ^ (8 * putK n) = 0)
                  rw [hkk]
                  rintro (h | h | h)
                  · exact h68 (by omega)
                  · exact h73 h
                  · exact h ((cmU_0 _).mp h80)
                have hr9 : (-4 : Int) = (if putBad n then -2 else if 80 < I o 6 + (putK n : Int) then -4 else I o 6 + (putK n : Int)) := by rw [if_neg hbad, hkk, if_pos (by omega)]
                have hI9 : ¬ (¬ putBad n ∧ I o 6 + (putK n : Int) ≤ 80) := fun z => by have := z.2; rw [hkk] at this; omega
                refine z_bipush C dX7_put_97 (by decide) ?_
                exact z_iret2 C hQ rfl dX7_put_99 ⟨zr hr9, rfl, rfl, rfl, (if_neg hI9).symm, rfl⟩
            · have hbad : putBad n := by
                show putK n = 0 ∨ okB n (putK n) = 0 ∨ ¬ n / 2 ^ (8 * putK n) = 0
                rw [hkk]
                first
                | exact Or.inl (by omega)
                | exact Or.inr (Or.inl h73)
                | exact Or.inr (Or.inr (fun z => h80 ((cmU_0 _).mpr z)))
              have hr9 : (-2 : Int) = (if putBad n then -2 else if 80 < I o 6 + (putK n : Int) then -4 else I o 6 + (putK n : Int)) := (if_pos hbad).symm
              have hI9 : ¬ (¬ putBad n ∧ I o 6 + (putK n : Int) ≤ 80) := fun z => z.1 hbad
              refine z_bipush C dX7_put_83 (by decide) ?_
              exact z_iret2 C hQ rfl dX7_put_85 ⟨zr hr9, rfl, rfl, rfl, (if_neg hI9).symm, rfl⟩
      · refine z_lload C dX7_put_14 rfl ?_
        refine z_ldc2 C 255 (by decide) dX7_put_16 wq_26_3 ?_
        refine z_land C 8 rfl (by decide) (by omega) dX7_put_19 ?_
        rw [show n / 2 ^ (8 * k) % 2 ^ 8 = by8 n k from rfl]
        refine z_lconst C 0 rfl dX7_put_20 ?_
        refine z_lcmp C (by omega) (by omega) dX7_put_21 ?_
        have hc22 := cmU_rng (by8 n k) 0
        refine z_if_eq C (tgt := 67) dX7_put_22 (by decide) (by first | omega | exact b2i_r) (fun h22 => ?_) (fun h22 => ?_)
        · have hkk : putK n = k := by
            rw [← hk]
            first
            | (rw [show k = 8 by omega]; rfl)
            | (rw [show 8 - k = (7 - k) + 1 by omega, lenB_s, if_pos ((cmU_0 _).mp h22)])
          refine z_iload_n C dX7_put_67 rfl ?_
          refine z_if_eq C (tgt := 83) dX7_put_68 (by decide) (by first | omega | exact b2i_r) (fun h68 => ?_) (fun h68 => ?_)
          · have hbad : putBad n := by
              show putK n = 0 ∨ okB n (putK n) = 0 ∨ ¬ n / 2 ^ (8 * putK n) = 0
              rw [hkk]
              first
              | exact Or.inl (by omega)
              | exact Or.inr (Or.inl h73)
              | exact Or.inr (Or.inr (fun z => h80 ((cmU_0 _).mpr z)))
            have hr9 : (-2 : Int) = (if putBad n then -2 else if 80 < I o 6 + (putK n : Int) then -4 else I o 6 + (putK n : Int)) := (if_pos hbad).symm
            have hI9 : ¬ (¬ putBad n ∧ I o 6 + (putK n : Int) ≤ 80) := fun z => z.1 hbad
            refine z_bipush C dX7_put_83 (by decide) ?_
            exact z_iret2 C hQ rfl dX7_put_85 ⟨zr hr9, rfl, rfl, rfl, (if_neg hI9).symm, rfl⟩
          · refine z_iload C dX7_put_71 rfl ?_
            refine z_if_eq C (tgt := 83) dX7_put_73 (by decide) (by first | omega | exact b2i_r) (fun h73 => ?_) (fun h73 => ?_)
            · have hbad : putBad n := by
                show putK n = 0 ∨ okB n (putK n) = 0 ∨ ¬ n / 2 ^ (8 * putK n) = 0
                rw [hkk]
                first
                | exact Or.inl (by omega)
                | exact Or.inr (Or.inl h73)
                | exact Or.inr (Or.inr (fun z => h80 ((cmU_0 _).mpr z)))
              have hr9 : (-2 : Int) = (if putBad n then -2 else if 80 < I o 6 + (putK n : Int) then -4 else I o 6 + (putK n : Int)) := (if_pos hbad).symm
              have hI9 : ¬ (¬ putBad n ∧ I o 6 + (putK n : Int) ≤ 80) := fun z => z.1 hbad
              refine z_bipush C dX7_put_83 (by decide) ?_
              exact z_iret2 C hQ rfl dX7_put_85 ⟨zr hr9, rfl, rfl, rfl, (if_neg hI9).symm, rfl⟩
            · refine z_lload C dX7_put_76 rfl ?_
              refine z_lconst C 0 rfl dX7_put_78 ?_
              refine z_lcmp C (by omega) (by omega) dX7_put_79 ?_
              have hc80 := cmU_rng (n / 2 ^ (8 * k)) 0
              refine z_if_eq C (tgt := 86) dX7_put_80 (by decide) (by first | omega | exact b2i_r) (fun h80 => ?_) (fun h80 => ?_)
              · refine z_aload_n C dX7_put_86 rfl ?_
                refine z_gI C (ci := 7) (k := 6) rfl (by decide) rfl (by decide) wl_7 wq_22_5 rfl dX7_put_87 (by assumption) ?_
                refine z_iload_n C dX7_put_90 rfl ?_
                refine z_iadd C dX7_put_91 ?_
                refine z_bipush C dX7_put_92 (by decide) ?_
                refine z_icmp_le C (tgt := 100) dX7_put_94 (by decide) (by first | omega | exact b2i_r) (by first | omega | exact b2i_r) (fun h94 => ?_) (fun h94 => ?_)
                · have hbad : ¬ putBad n := by
                    show ¬ (putK n = 0 ∨ okB n (putK n) = 0 ∨ ¬ n / 2 ^ (8 * putK n) = 0)
                    rw [hkk]
                    rintro (h | h | h)
                    · exact h68 (by omega)
                    · exact h73 h
                    · exact h ((cmU_0 _).mp h80)
                  have hcase : I o 6 + (k : Int) ≤ 80 := by omega
                  
                  refine z_iload_n C dX7_put_100 rfl ?_
                  refine z_iconst C dX7_put_101 ?_
                  refine z_isub C dX7_put_102 ?_
                  refine z_istore C dX7_put_103 (by decide) rfl ?_
                  refine z_sub [1, 2, 3, 5] (lv' := [(0, .ref o), (1, .long (zU n)), (3, .int (zI (k : Int))), (7, .int (zI ((k : Int) - 1)))]) rfl rfl ?_
                  refine z_conv (I' := padM I o n k k) (lv' := [(0, .ref o), (1, .long (zU n)), (3, .int (zI (k : Int))), (7, .int (zI ((k : Int) - 1)))]) (padM_0 _ _ _ _).symm rfl rfl rfl ?_
                  exact hloop2 k hbad hkk hcase h1 (k + 1) k (Nat.le_refl k) (by omega)
                · have hbad : ¬ putBad n := by
                    show ¬ (putK n = 0 ∨ okB n (putK n) = 0 ∨ ¬ n / 2 ^ (8 * putK n) = 0)
                    rw [hkk]
                    rintro (h | h | h)
                    · exact h68 (by omega)
                    · exact h73 h
                    · exact h ((cmU_0 _).mp h80)
                  have hr9 : (-4 : Int) = (if putBad n then -2 else if 80 < I o 6 + (putK n : Int) then -4 else I o 6 + (putK n : Int)) := by rw [if_neg hbad, hkk, if_pos (by omega)]
                  have hI9 : ¬ (¬ putBad n ∧ I o 6 + (putK n : Int) ≤ 80) := fun z => by have := z.2; rw [hkk] at this; omega
                  refine z_bipush C dX7_put_97 (by decide) ?_
                  exact z_iret2 C hQ rfl dX7_put_99 ⟨zr hr9, rfl, rfl, rfl, (if_neg hI9).symm, rfl⟩
              · have hbad : putBad n := by
                  show putK n = 0 ∨ okB n (putK n) = 0 ∨ ¬ n / 2 ^ (8 * putK n) = 0
                  rw [hkk]
                  first
                  | exact Or.inl (by omega)
                  | exact Or.inr (Or.inl h73)
                  | exact Or.inr (Or.inr (fun z => h80 ((cmU_0 _).mpr z)))
                have hr9 : (-2 : Int) = (if putBad n then -2 else if 80 < I o 6 + (putK n : Int) then -4 else I o 6 + (putK n : Int)) := (if_pos hbad).symm
                have hI9 : ¬ (¬ putBad n ∧ I o 6 + (putK n : Int) ≤ 80) := fun z => z.1 hbad
                refine z_bipush C dX7_put_83 (by decide) ?_
                exact z_iret2 C hQ rfl dX7_put_85 ⟨zr hr9, rfl, rfl, rfl, (if_neg hI9).symm, rfl⟩
        · have hne9 := fun z => h22 ((cmU_0 _).mpr z)
          have hk7 : ¬ k = 8 := by omega
          rw [show 8 - k = (8 - (k + 1)) + 1 by omega, lenB_s, if_neg hne9] at hk
          refine z_iload C dX7_put_25 rfl ?_
          refine z_if_eq C (tgt := 51) dX7_put_27 (by decide) (by first | omega | exact b2i_r) (fun h27 => ?_) (fun h27 => ?_)
          · refine z_iconst C dX7_put_51 ?_
            refine z_top (y := .int (zI (okB n (k + 1)))) (congrArg (fun x => Value.int (zI x)) (by rw [okB_s]; first | exact (if_pos ⟨h27, b2i_1.mp h44⟩).symm | exact (if_neg (fun z => b2i_0.mp h44 z.2)).symm | exact (if_neg (fun z => z.1 h27)).symm)) ?_
            refine z_istore C dX7_put_52 (by decide) rfl ?_
            refine z_lload C dX7_put_54 rfl ?_
            refine z_bipush C dX7_put_56 (by decide) ?_
            refine z_lushr C (j := 8) (by omega) (by omega) dX7_put_58 ?_
            rw [show n / 2 ^ (8 * k) / 2 ^ 8 = n / 2 ^ (8 * (k + 1)) by rw [Nat.div_div_eq_div_mul, ← Nat.pow_add, show 8 * k + 8 = 8 * (k + 1) by omega]]
            refine z_lstore C (lv' := [(4, .long (zU (n / 2 ^ (8 * (k + 1))))), (0, .ref o), (1, .long (zU n)), (3, .int (zI (k : Int))), (6, .int (zI (okB n (k + 1))))]) dX7_put_59 (by decide) rfl rfl ?_
            refine z_iinc C dX7_put_61 rfl (by decide) rfl ?_
            refine z_goto C (tgt := 8) dX7_put_64 (by decide) ?_
            rw [show (k : Int) + 1 = ((k + 1 : Nat) : Int) by omega]
            exact ih (k + 1) (by omega) (by omega) hk
          · refine z_lload C dX7_put_30 rfl ?_
            refine z_ldc2 C 255 (by decide) dX7_put_32 wq_26_3 ?_
            refine z_land C 8 rfl (by decide) (by omega) dX7_put_35 ?_
            rw [show n / 2 ^ (8 * k) % 2 ^ 8 = by8 n k from rfl]
            refine z_l2i C (by omega) dX7_put_36 ?_
            refine z_bipush C dX7_put_37 (by decide) ?_
            refine z_bipush C dX7_put_39 (by decide) ?_
            refine z_callSd C (mX7_within l G (by omega) (by omega) (by omega)) (va_cwS 3 C.2.2.2.2.1 gv7_39 rfl rfl rfl hs_X7_within ⟨Nat.le_of_ble_eq_true rfl, Nat.le_of_ble_eq_true rfl⟩) rfl rfl (Nat.le_of_ble_eq_true rfl) dX7_put_41 ⟨Nat.zero_le _, Nat.zero_le _⟩ ?_
            refine z_if_eq C (tgt := 51) dX7_put_44 (by decide) (by first | omega | exact b2i_r) (fun h44 => ?_) (fun h44 => ?_)
            · refine z_iconst C dX7_put_51 ?_
              refine z_top (y := .int (zI (okB n (k + 1)))) (congrArg (fun x => Value.int (zI x)) (by rw [okB_s]; first | exact (if_pos ⟨h27, b2i_1.mp h44⟩).symm | exact (if_neg (fun z => b2i_0.mp h44 z.2)).symm | exact (if_neg (fun z => z.1 h27)).symm)) ?_
              refine z_istore C dX7_put_52 (by decide) rfl ?_
              refine z_lload C dX7_put_54 rfl ?_
              refine z_bipush C dX7_put_56 (by decide) ?_
              refine z_lushr C (j := 8) (by omega) (by omega) dX7_put_58 ?_
              rw [show n / 2 ^ (8 * k) / 2 ^ 8 = n / 2 ^ (8 * (k + 1)) by rw [Nat.div_div_eq_div_mul, ← Nat.pow_add, show 8 * k + 8 = 8 * (k + 1) by omega]]
              refine z_lstore C (lv' := [(4, .long (zU (n / 2 ^ (8 * (k + 1))))), (0, .ref o), (1, .long (zU n)), (3, .int (zI (k : Int))), (6, .int (zI (okB n (k + 1))))]) dX7_put_59 (by decide) rfl rfl ?_
              refine z_iinc C dX7_put_61 rfl (by decide) rfl ?_
              refine z_goto C (tgt := 8) dX7_put_64 (by decide) ?_
              rw [show (k : Int) + 1 = ((k + 1 : Nat) : Int) by omega]
              exact ih (k + 1) (by omega) (by omega) hk
            · refine z_iconst C dX7_put_47 ?_
              refine z_goto C (tgt := 52) dX7_put_48 (by decide) ?_
              refine z_top (y := .int (zI (okB n (k + 1)))) (congrArg (fun x => Value.int (zI x)) (by rw [okB_s]; first | exact (if_pos ⟨h27, b2i_1.mp h44⟩).symm | exact (if_neg (fun z => b2i_0.mp h44 z.2)).symm | exact (if_neg (fun z => z.1 h27)).symm)) ?_
              refine z_istore C dX7_put_52 (by decide) rfl ?_
              refine z_lload C dX7_put_54 rfl ?_
              refine z_bipush C dX7_put_56 (by decide) ?_
              refine z_lushr C (j := 8) (by omega) (by omega) dX7_put_58 ?_
              rw [show n / 2 ^ (8 * k) / 2 ^ 8 = n / 2 ^ (8 * (k + 1)) by rw [Nat.div_div_eq_div_mul, ← Nat.pow_add, show 8 * k + 8 = 8 * (k + 1) by omega]]
              refine z_lstore C (lv' := [(4, .long (zU (n / 2 ^ (8 * (k + 1))))), (0, .ref o), (1, .long (zU n)), (3, .int (zI (k : Int))), (6, .int (zI (okB n (k + 1))))]) dX7_put_59 (by decide) rfl rfl ?_
              refine z_iinc C dX7_put_61 rfl (by decide) rfl ?_
              refine z_goto C (tgt := 8) dX7_put_64 (by decide) ?_
              rw [show (k : Int) + 1 = ((k + 1 : Nat) : Int) by omega]
              exact ih (k + 1) (by omega) (by omega) hk
  refine z_iconst C dX7_put_0 ?_
  refine z_istore_n C dX7_put_1 (by decide) rfl ?_
  refine z_lload_n C dX7_put_2 rfl ?_
  refine z_lstore C (lv' := [(4, .long (zU n)), (0, .ref o), (1, .long (zU n)), (3, .int (zI 0))]) dX7_put_3 (by decide) rfl rfl ?_
  refine z_iconst C dX7_put_5 ?_
  refine z_istore C dX7_put_6 (by decide) rfl ?_
  refine z_conv (lv' := [(4, .long (zU (n / 2 ^ (8 * 0)))), (0, .ref o), (1, .long (zU n)), (3, .int (zI ((0 : Nat) : Int))), (6, .int (zI (okB n 0)))]) rfl rfl (by rw [Nat.mul_zero, Nat.pow_zero, Nat.div_one]; rfl) rfl ?_
  exact hloop 9 0 (by omega) (by omega) rfl

