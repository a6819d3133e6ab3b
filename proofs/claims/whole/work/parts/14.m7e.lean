set_option maxHeartbeats 4000000 in
set_option maxRecDepth 100000 in
theorem mX7_findOrder (l : Launch) (G : GG) {z : Nat} {K N : Nat → Nat} {I : MI} {R : MR} {o : Nat} (hM : ShM G z K N R o) (hO : Ok (I (o + 1))) : Cod l G yX7_findOrder (Cond.code yX7_findOrder cX7_findOrder 3 none :: wsL_law) ⟨0, 0, 0, 0⟩ [.ref o] z K N I R none (va_up I (o + 6) (rowO (fun j => I (o + 1) (6 + j)) (I (o + 1) 3).toNat (I (o + 6)))) R := by
  refine Con.of (own := RX7) (cc := cX7_findOrder) (maxL := 3) (ret := none) (by decide +kernel) rfl rfl (Nat.le_of_ble_eq_true rfl) (by decide) rfl ?_
  intro p e9 s mt args below meth c Q hin hQ C
  obtain ⟨ho, ⟨r0, r1, r3, r4, r5, r7, r8⟩, ⟨k1, k2, k3, k4, k5, k6, k7⟩, n1, n2, n3, n4, n5, n6, n7⟩ := id hM
  have h3 := hO.2.2.2.1
  have hin9 : ∀ (n : Nat) (q r : Nat), (r : Int) < I (o + 1) 3 → q ≤ r → insQ (fun j => I (o + 1) (6 + j)) (ordC (fun j => I (o + 1) (6 + j)) r) r r = insQ (fun j => I (o + 1) (6 + j)) (ordC (fun j => I (o + 1) (6 + j)) r) r q → q < n → (Zq p l e9 ⟨0, 0, 0, 0⟩ s mt args below meth c G 3 Q 0 0 z K N (va_up I (o + 6) (rowO (fun j => I (o + 1) (6 + j)) (r + 1) (I (o + 6)))) R 2 [(0, .ref o), (1, .int (zI ((r + 1 : Nat) : Int)))] []) → Zq p l e9 ⟨0, 0, 0, 0⟩ s mt args below meth c G 3 Q 0 0 z K N (va_up I (o + 6) (rowB (fun j => I (o + 1) (6 + j)) r q (I (o + 6)))) R 14 [(0, .ref o), (1, .int (zI (r : Int))), (2, .int (zI (q : Int)))] [] := by
    intro n
    induction n with
    | zero => intro q r h1 h2 h3 h4 hout; exact absurd h4 (by omega)
    | succ n ih =>
      intro q r h1 h2 h3 h4 hout
      have c1 := hO.2.2.2.2.2.2.1 r h1
      refine z_iload_n C dX7_findOrder_14 rfl ?_
      refine z_if_le C (tgt := 66) dX7_findOrder_15 (by decide) (by first | omega | exact b2i_r) (fun h15 => ?_) (fun h15 => ?_)
      · have hq : insQ (fun j => I (o + 1) (6 + j)) (ordC (fun j => I (o + 1) (6 + j)) r) r r = q := by
          rcases Nat.eq_zero_or_pos q with hq0 | hq0
          · subst hq0; exact h3
          · first
            | (exfalso; omega)
            | (obtain ⟨q9, rfl⟩ : ∃ q9, q = q9 + 1 := ⟨q - 1, (by omega)⟩
               rw [h3]
               have h44 : (fun j => I (o + 1) (6 + j)) (ordC (fun j => I (o + 1) (6 + j)) r q9) ≤ (fun j => I (o + 1) (6 + j)) r := h43
               exact if_pos h44)
        refine z_aload_n C dX7_findOrder_66 rfl ?_
        refine z_gR C (ci := 7) (k := 7) rfl (by decide) rfl (by decide) wl_7 wq_4_8 (by decide) dX7_findOrder_67 (by assumption) (by assumption) ?_
        refine z_iload_n C dX7_findOrder_70 rfl ?_
        refine z_iload_n C dX7_findOrder_71 rfl ?_
        refine z_iastk C (q) dX7_findOrder_72 (by assumption) (by first | rfl | omega) (by omega) (by omega) ?_
        rw [u2_vst, rowB_e h2 hq]
        refine z_iinc C dX7_findOrder_73 rfl (by decide) rfl ?_
        refine z_goto C (tgt := 2) dX7_findOrder_76 (by decide) ?_
        exact z_sub [0, 1] rfl rfl hout
      · refine z_aload_n C dX7_findOrder_18 rfl ?_
        refine z_gR C (ci := 7) (k := 0) rfl (by decide) rfl (by decide) wl_7 wq_4_3 (by decide) dX7_findOrder_19 (by assumption) (by assumption) ?_
        refine z_bipush C dX7_findOrder_22 (by decide) ?_
        refine z_aload_n C dX7_findOrder_24 rfl ?_
        refine z_gR C (ci := 7) (k := 7) rfl (by decide) rfl (by decide) wl_7 wq_4_8 (by decide) dX7_findOrder_25 (by assumption) (by assumption) ?_
        refine z_iload_n C dX7_findOrder_28 rfl ?_
        refine z_iconst C dX7_findOrder_29 ?_
        refine z_isub C dX7_findOrder_30 ?_
        refine z_ialdk C (q - 1) dX7_findOrder_31 (by assumption) (by first | rfl | omega) (by omega) (by omega) ?_
        rw [va_up_s, rowB_at (by omega) h2]
        have hlt := ordC_lt (fun j => I (o + 1) (6 + j)) r (q - 1) (by omega)
        have c2 := hO.2.2.2.2.2.2.1 (ordC (fun j => I (o + 1) (6 + j)) r (q - 1)) (by omega)
        refine z_iadd C dX7_findOrder_32 ?_
        refine z_ialdk C (6 + ordC (fun j => I (o + 1) (6 + j)) r (q - 1)) dX7_findOrder_33 (by assumption) (by first | rfl | omega) (by omega) (by omega) ?_
        rw [va_up_n (by omega)]
        refine z_aload_n C dX7_findOrder_34 rfl ?_
        refine z_gR C (ci := 7) (k := 0) rfl (by decide) rfl (by decide) wl_7 wq_4_3 (by decide) dX7_findOrder_35 (by assumption) (by assumption) ?_
        refine z_bipush C dX7_findOrder_38 (by decide) ?_
        refine z_iload_n C dX7_findOrder_40 rfl ?_
        refine z_iadd C dX7_findOrder_41 ?_
        refine z_ialdk C (6 + r) dX7_findOrder_42 (by assumption) (by first | rfl | omega) (by omega) (by omega) ?_
        rw [va_up_n (by omega)]
        refine z_icmp_le C (tgt := 66) dX7_findOrder_43 (by decide) (by first | omega | exact b2i_r) (by first | omega | exact b2i_r) (fun h43 => ?_) (fun h43 => ?_)
        · have hq : insQ (fun j => I (o + 1) (6 + j)) (ordC (fun j => I (o + 1) (6 + j)) r) r r = q := by
            rcases Nat.eq_zero_or_pos q with hq0 | hq0
            · subst hq0; exact h3
            · first
              | (exfalso; omega)
              | (obtain ⟨q9, rfl⟩ : ∃ q9, q = q9 + 1 := ⟨q - 1, (by omega)⟩
                 rw [h3]
                 have h44 : (fun j => I (o + 1) (6 + j)) (ordC (fun j => I (o + 1) (6 + j)) r q9) ≤ (fun j => I (o + 1) (6 + j)) r := h43
                 exact if_pos h44)
          refine z_aload_n C dX7_findOrder_66 rfl ?_
          refine z_gR C (ci := 7) (k := 7) rfl (by decide) rfl (by decide) wl_7 wq_4_8 (by decide) dX7_findOrder_67 (by assumption) (by assumption) ?_
          refine z_iload_n C dX7_findOrder_70 rfl ?_
          refine z_iload_n C dX7_findOrder_71 rfl ?_
          refine z_iastk C (q) dX7_findOrder_72 (by assumption) (by first | rfl | omega) (by omega) (by omega) ?_
          rw [u2_vst, rowB_e h2 hq]
          refine z_iinc C dX7_findOrder_73 rfl (by decide) rfl ?_
          refine z_goto C (tgt := 2) dX7_findOrder_76 (by decide) ?_
          exact z_sub [0, 1] rfl rfl hout
        · refine z_aload_n C dX7_findOrder_46 rfl ?_
          refine z_gR C (ci := 7) (k := 7) rfl (by decide) rfl (by decide) wl_7 wq_4_8 (by decide) dX7_findOrder_47 (by assumption) (by assumption) ?_
          refine z_iload_n C dX7_findOrder_50 rfl ?_
          refine z_aload_n C dX7_findOrder_51 rfl ?_
          refine z_gR C (ci := 7) (k := 7) rfl (by decide) rfl (by decide) wl_7 wq_4_8 (by decide) dX7_findOrder_52 (by assumption) (by assumption) ?_
          refine z_iload_n C dX7_findOrder_55 rfl ?_
          refine z_iconst C dX7_findOrder_56 ?_
          refine z_isub C dX7_findOrder_57 ?_
          refine z_ialdk C (q - 1) dX7_findOrder_58 (by assumption) (by first | rfl | omega) (by omega) (by omega) ?_
          rw [va_up_s, rowB_at (by omega) h2]
          refine z_iastk C (q) dX7_findOrder_59 (by assumption) (by first | rfl | omega) (by omega) (by omega) ?_
          rw [u2_vst, rowB_s (by omega) h2]
          refine z_iinc C dX7_findOrder_60 rfl (by decide) rfl ?_
          rw [show (q : Int) + -1 = ((q - 1 : Nat) : Int) by omega]
          refine z_goto C (tgt := 14) dX7_findOrder_63 (by decide) ?_
          refine ih (q - 1) r h1 (by omega) ?_ (by omega) hout
          rw [h3]
          obtain ⟨q9, rfl⟩ : ∃ q9, q = q9 + 1 := ⟨q - 1, by omega⟩
          rw [Nat.add_sub_cancel] at h43 ⊢
          exact if_neg (by omega)
  have hloop : ∀ (n r : Nat), (r : Int) ≤ I (o + 1) 3 → I (o + 1) 3 - r < n → Zq p l e9 ⟨0, 0, 0, 0⟩ s mt args below meth c G 3 Q 0 0 z K N (va_up I (o + 6) (rowO (fun j => I (o + 1) (6 + j)) r (I (o + 6)))) R 2 [(0, .ref o), (1, .int (zI (r : Int)))] [] := by
    intro n
    induction n with
    | zero => intro r h1 h2; exact absurd h2 (by omega)
    | succ n ih =>
      intro r h1 h2
      refine z_iload_n C dX7_findOrder_2 rfl ?_
      refine z_aload_n C dX7_findOrder_3 rfl ?_
      refine z_gR C (ci := 7) (k := 0) rfl (by decide) rfl (by decide) wl_7 wq_4_3 (by decide) dX7_findOrder_4 (by assumption) (by assumption) ?_
      refine z_iconst C dX7_findOrder_7 ?_
      refine z_ialdk C (3) dX7_findOrder_8 (by assumption) (by first | rfl | omega) (by omega) (by omega) ?_
      rw [va_up_n (by omega)]
      refine z_icmp_ge C (tgt := 79) dX7_findOrder_9 (by decide) (by first | omega | exact b2i_r) (by first | omega | exact b2i_r) (fun h9 => ?_) (fun h9 => ?_)
      · exact z_vret2 C hQ rfl dX7_findOrder_79 ⟨rfl, rfl, rfl, rfl, by rw [show r = (I (o + 1) 3).toNat by omega], rfl⟩
      · refine z_iload_n C dX7_findOrder_12 rfl ?_
        refine z_istore_n C dX7_findOrder_13 (by decide) rfl ?_
        refine z_mem (I' := (va_up I (o + 6) (rowB (fun j => I (o + 1) (6 + j)) r r (I (o + 6))))) (by rw [rowB_0]) rfl ?_
        exact hin9 (r + 1) r r (by omega) (by omega) rfl (by omega) (ih (r + 1) (by omega) (by omega))
  refine z_iconst C dX7_findOrder_0 ?_
  refine z_istore_n C dX7_findOrder_1 (by decide) rfl ?_
  refine z_mem (I' := (va_up I (o + 6) (rowO (fun j => I (o + 1) (6 + j)) 0 (I (o + 6))))) (by rw [show rowO (fun j => I (o + 1) (6 + j)) 0 (I (o + 6)) = I (o + 6) from funext fun j => if_neg (by omega), va_upS]) rfl ?_
  exact hloop 15 0 (by omega) (by omega)

def tstW (f : Nat → Int) (er pl sp : Int) : Nat → Int := wrg (tpr f) er pl sp
def rowR (f : Nat → Int) (er pl sp : Int) (k : Nat) (old : Nat → Int) : Nat → Int := fun j => if j < k then rdg (tpr f) er pl sp j else old j
/-- the model's memory inside a test, behind k readings -/
def tstM (I : MI) (o : Nat) (er pl sp : Int) (k : Nat) : MI := u2 (u2 (va_up (va_up I (o + 6) (rowO (fun j => I (o + 1) (6 + j)) (I (o + 1) 3).toNat (I (o + 6)))) (o + 7) (rowR (I (o + 1)) er pl sp k (I (o + 7)))) o 10 (wst (tstW (I (o + 1)) er pl sp) k)) o 9 (grt (tstW (I (o + 1)) er pl sp) k)
theorem tstM_r (I : MI) (o : Nat) (er pl sp : Int) (k b : Nat) (h : b ≠ o) (h6 : b ≠ o + 6) (h7 : b ≠ o + 7) : tstM I o er pl sp k b = I b := by
  unfold tstM
  rw [u2_row h, u2_row h, va_up_n h7, va_up_n h6]
theorem tstM_6 (I : MI) (o : Nat) (er pl sp : Int) (k : Nat) : tstM I o er pl sp k (o + 6) = rowO (fun j => I (o + 1) (6 + j)) (I (o + 1) 3).toNat (I (o + 6)) := by
  unfold tstM
  rw [u2_row (by omega), u2_row (by omega), va_up_n (by omega), va_up_s]
theorem tstM_7 (I : MI) (o : Nat) (er pl sp : Int) (k : Nat) : tstM I o er pl sp k (o + 7) = rowR (I (o + 1)) er pl sp k (I (o + 7)) := by
  unfold tstM
  rw [u2_row (by omega), u2_row (by omega), va_up_s]
theorem tstM_9 (I : MI) (o : Nat) (er pl sp : Int) (k : Nat) : tstM I o er pl sp k o 9 = grt (tstW (I (o + 1)) er pl sp) k := u2_s _ _ _ _
theorem tstM_10 (I : MI) (o : Nat) (er pl sp : Int) (k : Nat) : tstM I o er pl sp k o 10 = wst (tstW (I (o + 1)) er pl sp) k := by
  unfold tstM
  rw [u2_k (by omega), u2_s]
theorem tstM_j (I : MI) (o : Nat) (er pl sp : Int) (k j : Nat) (h : j ≠ 9) (h2 : j ≠ 10) : tstM I o er pl sp k o j = I o j := by
  unfold tstM
  rw [u2_k h, u2_k h2, va_up_n (by omega), va_up_n (by omega)]
theorem tstM_0 (I : MI) (o : Nat) (er pl sp : Int) : va_up (u2 (u2 I o 9 (-1)) o 10 0) (o + 6) (rowO (fun j => u2 (u2 I o 9 (-1)) o 10 0 (o + 1) (6 + j)) (u2 (u2 I o 9 (-1)) o 10 0 (o + 1) 3).toNat (u2 (u2 I o 9 (-1)) o 10 0 (o + 6))) = tstM I o er pl sp 0 := by
  have e1 : u2 (u2 I o 9 (-1)) o 10 0 (o + 1) = I (o + 1) := by rw [u2_row (by omega), u2_row (by omega)]
  have e6 : u2 (u2 I o 9 (-1)) o 10 0 (o + 6) = I (o + 6) := by rw [u2_row (by omega), u2_row (by omega)]
  have e7 : rowR (I (o + 1)) er pl sp 0 (I (o + 7)) = I (o + 7) := funext fun j => if_neg (by omega)
  rw [e1, e6]
  unfold tstM
  rw [e7]
  funext b j
  by_cases h0 : b = o
  · subst h0
    rw [va_up_n (by omega)]
    by_cases h9 : j = 9
    · subst h9; rw [u2_s, u2_k (by omega), u2_s]; rfl
    · by_cases h10 : j = 10
      · subst h10; rw [u2_s, u2_k (by omega), u2_s]; rfl
      · rw [u2_k h10, u2_k h9, u2_k h9, u2_k h10, va_up_n (by omega), va_up_n (by omega)]
  · by_cases h6 : b = o + 6
    · subst h6
      rw [va_up_s, u2_row (by omega), u2_row (by omega), va_up_n (by omega), va_up_s]
    · rw [va_up_n h6, u2_row h0, u2_row h0, u2_row h0, u2_row h0]
      by_cases h7 : b = o + 7
      · subst h7; rw [va_up_s]
      · rw [va_up_n h7, va_up_n h6]
theorem tstM_s (I : MI) (o : Nat) (er pl sp : Int) (k : Nat) : u2 (u2 (u2 (tstM I o er pl sp k) (o + 7) k (rdg (tpr (I (o + 1))) er pl sp k)) o 10 (wst (tstW (I (o + 1)) er pl sp) (k + 1))) o 9 (grt (tstW (I (o + 1)) er pl sp) (k + 1)) = tstM I o er pl sp (k + 1) := by
  have e7 : st1 (rowR (I (o + 1)) er pl sp k (I (o + 7))) k (rdg (tpr (I (o + 1))) er pl sp k) = rowR (I (o + 1)) er pl sp (k + 1) (I (o + 7)) := by
    funext j
    unfold st1 rowR
    by_cases h : j = k
    · rw [if_pos h, if_pos (by omega), h]
    · rw [if_neg h]
      by_cases h2 : j < k
      · rw [if_pos h2, if_pos (by omega)]
      · rw [if_neg h2, if_neg (by omega)]
  funext b j
  by_cases h0 : b = o
  · subst h0
    by_cases h9 : j = 9
    · subst h9; rw [u2_s, tstM_9]
    · by_cases h10 : j = 10
      · subst h10; rw [u2_k (by omega), u2_s, tstM_10]
      · rw [u2_k h9, u2_k h10, u2_row (by omega), tstM_j _ _ _ _ _ _ _ h9 h10, tstM_j _ _ _ _ _ _ _ h9 h10]
  · rw [u2_row h0, u2_row h0]
    by_cases h7 : b = o + 7
    · subst h7
      rw [u2_st, va_up_s, tstM_7, tstM_7, e7]
    · rw [u2_row h7]
      by_cases h6 : b = o + 6
      · subst h6; rw [tstM_6, tstM_6]
      · rw [tstM_r _ _ _ _ _ _ _ h0 h6 h7, tstM_r _ _ _ _ _ _ _ h0 h6 h7]
theorem tstW_rng {f : Nat → Int} (h : Ok f) {er pl sp : Int} (he : -99 ≤ er ∧ er ≤ 99) (hl : 0 ≤ pl ∧ pl ≤ 99) (hs : 1 ≤ sp ∧ sp ≤ 99) {k : Nat} (hk : k < 2 * (f 3).toNat) : 0 ≤ tstW f er pl sp k ∧ tstW f er pl sp k ≤ 16000198 := by
  have h1 := tpr_rng h hk
  have h2 := hnd_rng (pr := tpr f) (fun k hk => tpr_rng h hk) he hl (k + 1) (by omega)
  have h3 := rdg_rng h2 hs
  unfold tstW wrg rdg absz
  split <;> omega
set_option maxHeartbeats 4000000 in
set_option maxRecDepth 100000 in
theorem mX7_tests (l : Launch) (G : GG) {z : Nat} {K N : Nat → Nat} {I : MI} {R : MR} {o : Nat} (hM : ShM G z K N R o) (hO : Ok (I (o + 1))) {g : Nat} (hg : (g : Int) < I (o + 1) 5) {er : Int} (he : -99 ≤ er ∧ er ≤ 99) : Cod l G yX7_tests (Cond.code yX7_tests cX7_tests 10 none :: wsL_law) ⟨4, 0, 0, 86⟩ [.ref o, .int (zI (g : Int)), .int (zI er)] z K N I R none (tstM I o er (I (o + 1) (21 + 36 * g)) (I (o + 1) (22 + 36 * g)) (2 * (I (o + 1) 3).toNat)) R := by
  refine Con.of (own := RX7) (cc := cX7_tests) (maxL := 10) (ret := none) (by decide +kernel) rfl rfl (Nat.le_of_ble_eq_true rfl) (by decide) rfl ?_
  intro p e9 s mt args below meth c Q hin hQ C
  obtain ⟨ho, ⟨r0, r1, r3, r4, r5, r7, r8⟩, ⟨k1, k2, k3, k4, k5, k6, k7⟩, n1, n2, n3, n4, n5, n6, n7⟩ := id hM
  have h3 := hO.2.2.2.1
  have h5 := hO.2.2.2.2.2.1
  obtain ⟨c1, c2, c3, c4, c5⟩ := hO.2.2.2.2.2.2.2 g hg
  have hmid : ∀ (n k : Nat), (k : Int) < 2 * I (o + 1) 3 → 2 * I (o + 1) 3 - k < (n + 1 : Nat) → (∀ k : Nat, (k : Int) ≤ 2 * I (o + 1) 3 → 2 * I (o + 1) 3 - k < n → Zq p l e9 ⟨4, 0, 0, 86⟩ s mt args below meth c G 10 Q 0 0 z K N (tstM I o er (I (o + 1) (21 + 36 * g)) (I (o + 1) (22 + 36 * g)) k) R 30 [(0, .ref o), (1, .int (zI (g : Int))), (2, .int (zI er)), (3, .int (zI (I (o + 1) 3))), (4, .int (zI (hnd (tpr (I (o + 1))) er (I (o + 1) (21 + 36 * g)) k))), (5, .int (zI (ssK (fun j => I (o + 1) (6 + j)) (I (o + 1) 3).toNat k))), (6, .int (zI (k : Int)))] []) → Zq p l e9 ⟨4, 0, 0, 86⟩ s mt args below meth c G 10 Q 0 0 z K N (tstM I o er (I (o + 1) (21 + 36 * g)) (I (o + 1) (22 + 36 * g)) k) R 61 [(0, .ref o), (1, .int (zI (g : Int))), (2, .int (zI er)), (3, .int (zI (I (o + 1) 3))), (4, .int (zI (hnd (tpr (I (o + 1))) er (I (o + 1) (21 + 36 * g)) k))), (5, .int (zI (ssK (fun j => I (o + 1) (6 + j)) (I (o + 1) 3).toNat k))), (6, .int (zI (k : Int)))] [.int (zI (((if k < (I (o + 1) 3).toNat then k else 2 * (I (o + 1) 3).toNat - 1 - k : Nat)) : Int)), .ref (o + 6)] := by
    intro n k h1 h2 ih
    have hix : (if k < (I (o + 1) 3).toNat then k else 2 * (I (o + 1) 3).toNat - 1 - k) < 14 := by split <;> omega
    refine z_ialdk C (if k < (I (o + 1) 3).toNat then k else 2 * (I (o + 1) 3).toNat - 1 - k) dX7_tests_61 (by assumption) (by first | rfl | omega) (by omega) (by omega) ?_
    rw [tstM_6, show rowO (fun j => I (o + 1) (6 + j)) (I (o + 1) 3).toNat (I (o + 6)) (if k < (I (o + 1) 3).toNat then k else 2 * (I (o + 1) 3).toNat - 1 - k) = (rngK (fun j => I (o + 1) (6 + j)) (I (o + 1) 3).toNat k : Int) from if_pos (by split <;> omega)]
    have hrk := rngK_lt (fun j => I (o + 1) (6 + j)) (n := (I (o + 1) 3).toNat) (k := k) (by omega)
    have hss := ssK_all (fun j => I (o + 1) (6 + j)) (I (o + 1) 3).toNat k (by omega)
    have hss2 := ssK_all (fun j => I (o + 1) (6 + j)) (I (o + 1) 3).toNat (k + 1) (by omega)
    have hp14 : (2 : Int) ^ (I (o + 1) 3).toNat ≤ 16384 := pow_le (b := 14) (by omega)
    have htp := tpr_rng hO (k := k) (by omega)
    have hhd := hnd_rng (pr := tpr (I (o + 1))) (fun k hk => tpr_rng hO hk) he c2 k (by omega)
    have hhd2 := hnd_rng (pr := tpr (I (o + 1))) (fun k hk => tpr_rng hO hk) he c2 (k + 1) (by omega)
    have hrd := rdg_rng hhd2 c3
    have htw := tstW_rng hO he c2 c3 (k := k) (by omega)
    refine z_istore C dX7_tests_62 (by decide) rfl ?_
    refine z_iload C dX7_tests_64 rfl ?_
    refine z_iconst C dX7_tests_66 ?_
    refine z_iload C dX7_tests_67 rfl ?_
    refine z_ishl C dX7_tests_69 (zI_shl (by omega)) ?_
    refine z_ixor C dX7_tests_70 (zI_xorb (by omega) _) ?_
    refine z_istore C dX7_tests_71 (by decide) rfl ?_
    refine z_aload_n C dX7_tests_73 rfl ?_
    refine z_iload C dX7_tests_74 rfl ?_
    refine z_callVd C (ci := 7) rfl (by decide) (by first | assumption | exact hM.1) (mX7_pressureOf l G hM (by rw [tstM_r _ _ _ _ _ _ _ (by omega) (by omega) (by omega)]; exact hO) (sm := ssK (fun j => I (o + 1) (6 + j)) (I (o + 1) 3).toNat (k + 1)) (by omega)) (cwV 1 C.2.2.2.2.1 gv7_67 rfl rfl rfl hd_X7_pressureOf ⟨Nat.le_of_ble_eq_true rfl, Nat.le_of_ble_eq_true rfl⟩) rfl rfl (Nat.le_of_ble_eq_true rfl) dX7_tests_76 ⟨Nat.zero_le _, Nat.zero_le _⟩ ?_
    rw [tstM_r _ _ _ _ _ _ _ (by omega) (by omega) (by omega), tpr_eq k (by omega)]
    refine z_istore C dX7_tests_79 (by decide) rfl ?_
    refine z_iload C dX7_tests_81 rfl ?_
    refine z_iload C dX7_tests_83 rfl ?_
    refine z_iload_n C dX7_tests_85 rfl ?_
    refine z_aload_n C dX7_tests_86 rfl ?_
    refine z_iload_n C dX7_tests_87 rfl ?_
    refine z_iconst C dX7_tests_88 ?_
    refine z_callVd C (ci := 7) rfl (by decide) (by first | assumption | exact hM.1) (mX7_part l G hM (by omega) (by omega)) (cwV 2 C.2.2.2.2.1 gv7_64 rfl rfl rfl hd_X7_part ⟨Nat.le_of_ble_eq_true rfl, Nat.le_of_ble_eq_true rfl⟩) rfl rfl (Nat.le_of_ble_eq_true rfl) dX7_tests_89 ⟨Nat.zero_le _, Nat.zero_le _⟩ ?_
    rw [tstM_r _ _ _ _ _ _ _ (by omega) (by omega) (by omega), show (20 + 36 * (g : Int) + 1).toNat = 21 + 36 * g by omega]
    refine z_callSd C (mX7_goesTo l G htp he c2 hhd) (va_cwS 4 C.2.2.2.2.1 gv7_70 rfl rfl rfl hs_X7_goesTo ⟨Nat.le_of_ble_eq_true rfl, Nat.le_of_ble_eq_true rfl⟩) rfl rfl (Nat.le_of_ble_eq_true rfl) dX7_tests_92 ⟨Nat.zero_le _, Nat.zero_le _⟩ ?_
    refine z_istore C dX7_tests_95 (by decide) rfl ?_
    refine z_aload_n C dX7_tests_97 rfl ?_
    refine z_gR C (ci := 7) (k := 8) rfl (by decide) rfl (by decide) wl_7 wq_4_9 (by decide) dX7_tests_98 (by assumption) (by assumption) ?_
    refine z_iload C dX7_tests_101 rfl ?_
    refine z_iload C dX7_tests_103 rfl ?_
    refine z_aload_n C dX7_tests_105 rfl ?_
    refine z_iload_n C dX7_tests_106 rfl ?_
    refine z_iconst C dX7_tests_107 ?_
    refine z_callVd C (ci := 7) rfl (by decide) (by first | assumption | exact hM.1) (mX7_part l G hM (by omega) (by omega)) (cwV 2 C.2.2.2.2.1 gv7_64 rfl rfl rfl hd_X7_part ⟨Nat.le_of_ble_eq_true rfl, Nat.le_of_ble_eq_true rfl⟩) rfl rfl (Nat.le_of_ble_eq_true rfl) dX7_tests_108 ⟨Nat.zero_le _, Nat.zero_le _⟩ ?_
    rw [tstM_r _ _ _ _ _ _ _ (by omega) (by omega) (by omega), show (20 + 36 * (g : Int) + 2).toNat = 22 + 36 * g by omega]
    refine z_callSd C (mX7_reads l G hhd2 c3) (va_cwS 2 C.2.2.2.2.1 gv7_94 rfl rfl rfl hs_X7_reads ⟨Nat.le_of_ble_eq_true rfl, Nat.le_of_ble_eq_true rfl⟩) rfl rfl (Nat.le_of_ble_eq_true rfl) dX7_tests_111 ⟨Nat.zero_le _, Nat.zero_le _⟩ ?_
    refine z_iastk C (k) dX7_tests_114 (by assumption) (by first | rfl | omega) (by omega) (by omega) ?_
    obtain ⟨J, hJ⟩ : ∃ J : MI, J = u2 (tstM I o er (I (o + 1) (21 + 36 * g)) (I (o + 1) (22 + 36 * g)) k) (o + 7) k (rnd (hnd (tpr (I (o + 1))) er (I (o + 1) (21 + 36 * g)) (k + 1)) (I (o + 1) (22 + 36 * g)) * (I (o + 1) (22 + 36 * g))) := ⟨_, rfl⟩
    rw [← hJ]
    have j9 : J o 9 = grt (tstW (I (o + 1)) er (I (o + 1) (21 + 36 * g)) (I (o + 1) (22 + 36 * g))) k := by rw [hJ, u2_row (by omega), tstM_9]
    have j10 : J o 10 = wst (tstW (I (o + 1)) er (I (o + 1) (21 + 36 * g)) (I (o + 1) (22 + 36 * g))) k := by rw [hJ, u2_row (by omega), tstM_10]
    have j7 : J (o + 7) k = rdg (tpr (I (o + 1))) er (I (o + 1) (21 + 36 * g)) (I (o + 1) (22 + 36 * g)) k := by rw [hJ, u2_s]; rfl
    have hg9 := grt_rng (w := (tstW (I (o + 1)) er (I (o + 1) (21 + 36 * g)) (I (o + 1) (22 + 36 * g)))) (n := 2 * (I (o + 1) 3).toNat) (fun k hk => tstW_rng hO he c2 c3 hk) (by omega) k (by omega)
    refine z_aload_n C dX7_tests_115 rfl ?_
    refine z_gR C (ci := 7) (k := 8) rfl (by decide) rfl (by decide) wl_7 wq_4_9 (by decide) dX7_tests_116 (by assumption) (by assumption) ?_
    refine z_iload C dX7_tests_119 rfl ?_
    refine z_ialdk C (k) dX7_tests_121 (by assumption) (by first | rfl | omega) (by omega) (by omega) ?_
    rw [j7]
    have hrd2 : 0 ≤ rdg (tpr (I (o + 1))) er (I (o + 1) (21 + 36 * g)) (I (o + 1) (22 + 36 * g)) k ∧ rdg (tpr (I (o + 1))) er (I (o + 1) (21 + 36 * g)) (I (o + 1) (22 + 36 * g)) k ≤ 16000198 := hrd
    refine z_iload C dX7_tests_122 rfl ?_
    refine z_isub C dX7_tests_124 ?_
    refine z_callSd C (mX7_size l G (by omega)) (va_cwS 1 C.2.2.2.2.1 gv7_58 rfl rfl rfl hs_X7_size ⟨Nat.le_of_ble_eq_true rfl, Nat.le_of_ble_eq_true rfl⟩) rfl rfl (Nat.le_of_ble_eq_true rfl) dX7_tests_125 ⟨Nat.zero_le _, Nat.zero_le _⟩ ?_
    refine z_top (x := .int (zI (absz (rdg (tpr (I (o + 1))) er (I (o + 1) (21 + 36 * g)) (I (o + 1) (22 + 36 * g)) k - tpr (I (o + 1)) k)))) (y := .int (zI ((tstW (I (o + 1)) er (I (o + 1) (21 + 36 * g)) (I (o + 1) (22 + 36 * g))) k))) rfl ?_
    refine z_istore C dX7_tests_128 (by decide) rfl ?_
    refine z_aload_n C dX7_tests_130 rfl ?_
    refine z_iload C dX7_tests_131 rfl ?_
    refine z_aload_n C dX7_tests_133 rfl ?_
    refine z_gI C (ci := 7) (k := 9) rfl (by decide) rfl (by decide) wl_7 wq_19_1 rfl dX7_tests_134 (by assumption) ?_
    rw [j9]
    refine z_icmp_le C (tgt := 145) dX7_tests_137 (by decide) (by first | omega | exact b2i_r) (by first | omega | exact b2i_r) (fun h137 => ?_) (fun h137 => ?_)
    · refine z_aload_n C dX7_tests_145 rfl ?_
      refine z_gI C (ci := 7) (k := 10) rfl (by decide) rfl (by decide) wl_7 wq_19_6 rfl dX7_tests_146 (by assumption) ?_
      refine z_top (y := .int (zI (wst (tstW (I (o + 1)) er (I (o + 1) (21 + 36 * g)) (I (o + 1) (22 + 36 * g))) (k + 1)))) (by first | exact congrArg (fun x => Value.int (zI x)) (if_pos (by omega)).symm | (rw [j10]; exact congrArg (fun x => Value.int (zI x)) (if_neg (by omega)).symm)) ?_
      refine z_pI C (ci := 7) (k := 10) rfl (by decide) rfl (by decide) tyX7_ok nmX7 wl_7 wq_19_6 rfl (Or.inl rfl) dX7_tests_149 (by assumption) ?_
      refine z_aload_n C dX7_tests_152 rfl ?_
      refine z_iload C dX7_tests_153 rfl ?_
      refine z_aload_n C dX7_tests_155 rfl ?_
      refine z_gI C (ci := 7) (k := 9) rfl (by decide) rfl (by decide) wl_7 wq_19_1 rfl dX7_tests_156 (by assumption) ?_
      rw [u2_k (by omega), j9]
      refine z_icmp_le C (tgt := 167) dX7_tests_159 (by decide) (by first | omega | exact b2i_r) (by first | omega | exact b2i_r) (fun h159 => ?_) (fun h159 => ?_)
      · refine z_aload_n C dX7_tests_167 rfl ?_
        refine z_gI C (ci := 7) (k := 9) rfl (by decide) rfl (by decide) wl_7 wq_19_1 rfl dX7_tests_168 (by assumption) ?_
        refine z_top (y := .int (zI (grt (tstW (I (o + 1)) er (I (o + 1) (21 + 36 * g)) (I (o + 1) (22 + 36 * g))) (k + 1)))) (by first | exact congrArg (fun x => Value.int (zI x)) (if_pos (by omega)).symm | (rw [u2_k (by omega), j9]; exact congrArg (fun x => Value.int (zI x)) (if_neg (by omega)).symm)) ?_
        refine z_pI C (ci := 7) (k := 9) rfl (by decide) rfl (by decide) tyX7_ok nmX7 wl_7 wq_19_1 rfl (Or.inl rfl) dX7_tests_171 (by assumption) ?_
        rw [hJ]
        refine z_mem (I' := (tstM I o er (I (o + 1) (21 + 36 * g)) (I (o + 1) (22 + 36 * g)) (k + 1))) (tstM_s I o er (I (o + 1) (21 + 36 * g)) (I (o + 1) (22 + 36 * g)) k) rfl ?_
        refine z_iinc C dX7_tests_174 rfl (by decide) rfl ?_
        refine z_goto C (tgt := 30) dX7_tests_177 (by decide) ?_
        exact z_sub [0, 1, 2, 3, 4, 5, 6] rfl rfl (ih (k + 1) (by omega) (by omega))
      · refine z_iload C dX7_tests_162 rfl ?_
        refine z_goto C (tgt := 171) dX7_tests_164 (by decide) ?_
        refine z_top (y := .int (zI (grt (tstW (I (o + 1)) er (I (o + 1) (21 + 36 * g)) (I (o + 1) (22 + 36 * g))) (k + 1)))) (by first | exact congrArg (fun x => Value.int (zI x)) (if_pos (by omega)).symm | (rw [u2_k (by omega), j9]; exact congrArg (fun x => Value.int (zI x)) (if_neg (by omega)).symm)) ?_
        refine z_pI C (ci := 7) (k := 9) rfl (by decide) rfl (by decide) tyX7_ok nmX7 wl_7 wq_19_1 rfl (Or.inl rfl) dX7_tests_171 (by assumption) ?_
        rw [hJ]
        refine z_mem (I' := (tstM I o er (I (o + 1) (21 + 36 * g)) (I (o + 1) (22 + 36 * g)) (k + 1))) (tstM_s I o er (I (o + 1) (21 + 36 * g)) (I (o + 1) (22 + 36 * g)) k) rfl ?_
        refine z_iinc C dX7_tests_174 rfl (by decide) rfl ?_
        refine z_goto C (tgt := 30) dX7_tests_177 (by decide) ?_
        exact z_sub [0, 1, 2, 3, 4, 5, 6] rfl rfl (ih (k + 1) (by omega) (by omega))
    · refine z_iload C dX7_tests_140 rfl ?_
      refine z_goto C (tgt := 149) dX7_tests_142 (by decide) ?_
      refine z_top (y := .int (zI (wst (tstW (I (o + 1)) er (I (o + 1) (21 + 36 * g)) (I (o + 1) (22 + 36 * g))) (k + 1)))) (by first | exact congrArg (fun x => Value.int (zI x)) (if_pos (by omega)).symm | (rw [j10]; exact congrArg (fun x => Value.int (zI x)) (if_neg (by omega)).symm)) ?_
      refine z_pI C (ci := 7) (k := 10) rfl (by decide) rfl (by decide) tyX7_ok nmX7 wl_7 wq_19_6 rfl (Or.inl rfl) dX7_tests_149 (by assumption) ?_
      refine z_aload_n C dX7_tests_152 rfl ?_
      refine z_iload C dX7_tests_153 rfl ?_
      refine z_aload_n C dX7_tests_155 rfl ?_
      refine z_gI C (ci := 7) (k := 9) rfl (by decide) rfl (by decide) wl_7 wq_19_1 rfl dX7_tests_156 (by assumption) ?_
      rw [u2_k (by omega), j9]
      refine z_icmp_le C (tgt := 167) dX7_tests_159 (by decide) (by first | omega | exact b2i_r) (by first | omega | exact b2i_r) (fun h159 => ?_) (fun h159 => ?_)
      · refine z_aload_n C dX7_tests_167 rfl ?_
        refine z_gI C (ci := 7) (k := 9) rfl (by decide) rfl (by decide) wl_7 wq_19_1 rfl dX7_tests_168 (by assumption) ?_
        refine z_top (y := .int (zI (grt (tstW (I (o + 1)) er (I (o + 1) (21 + 36 * g)) (I (o + 1) (22 + 36 * g))) (k + 1)))) (by first | exact congrArg (fun x => Value.int (zI x)) (if_pos (by omega)).symm | (rw [u2_k (by omega), j9]; exact congrArg (fun x => Value.int (zI x)) (if_neg (by omega)).symm)) ?_
        refine z_pI C (ci := 7) (k := 9) rfl (by decide) rfl (by decide) tyX7_ok nmX7 wl_7 wq_19_1 rfl (Or.inl rfl) dX7_tests_171 (by assumption) ?_
        rw [hJ]
        refine z_mem (I' := (tstM I o er (I (o + 1) (21 + 36 * g)) (I (o + 1) (22 + 36 * g)) (k + 1))) (tstM_s I o er (I (o + 1) (21 + 36 * g)) (I (o + 1) (22 + 36 * g)) k) rfl ?_
        refine z_iinc C dX7_tests_174 rfl (by decide) rfl ?_
        refine z_goto C (tgt := 30) dX7_tests_177 (by decide) ?_
        exact z_sub [0, 1, 2, 3, 4, 5, 6] rfl rfl (ih (k + 1) (by omega) (by omega))
      · refine z_iload C dX7_tests_162 rfl ?_
        refine z_goto C (tgt := 171) dX7_tests_164 (by decide) ?_
        refine z_top (y := .int (zI (grt (tstW (I (o + 1)) er (I (o + 1) (21 + 36 * g)) (I (o + 1) (22 + 36 * g))) (k + 1)))) (by first | exact congrArg (fun x => Value.int (zI x)) (if_pos (by omega)).symm | (rw [u2_k (by omega), j9]; exact congrArg (fun x => Value.int (zI x)) (if_neg (by omega)).symm)) ?_
        refine z_pI C (ci := 7) (k := 9) rfl (by decide) rfl (by decide) tyX7_ok nmX7 wl_7 wq_19_1 rfl (Or.inl rfl) dX7_tests_171 (by assumption) ?_
        rw [hJ]
        refine z_mem (I' := (tstM I o er (I (o + 1) (21 + 36 * g)) (I (o + 1) (22 + 36 * g)) (k + 1))) (tstM_s I o er (I (o + 1) (21 + 36 * g)) (I (o + 1) (22 + 36 * g)) k) rfl ?_
        refine z_iinc C dX7_tests_174 rfl (by decide) rfl ?_
        refine z_goto C (tgt := 30) dX7_tests_177 (by decide) ?_
        exact z_sub [0, 1, 2, 3, 4, 5, 6] rfl rfl (ih (k + 1) (by omega) (by omega))
  have hloop : ∀ (n : Nat) (k : Nat), (k : Int) ≤ 2 * I (o + 1) 3 → 2 * I (o + 1) 3 - k < n → Zq p l e9 ⟨4, 0, 0, 86⟩ s mt args below meth c G 10 Q 0 0 z K N (tstM I o er (I (o + 1) (21 + 36 * g)) (I (o + 1) (22 + 36 * g)) k) R 30 [(0, .ref o), (1, .int (zI (g : Int))), (2, .int (zI er)), (3, .int (zI (I (o + 1) 3))), (4, .int (zI (hnd (tpr (I (o + 1))) er (I (o + 1) (21 + 36 * g)) k))), (5, .int (zI (ssK (fun j => I (o + 1) (6 + j)) (I (o + 1) 3).toNat k))), (6, .int (zI (k : Int)))] [] := by
    intro n
    induction n with
    | zero => intro k h1 h2; exact absurd h2 (by omega)
    | succ n ih =>
      intro k h1 h2
      refine z_iload C dX7_tests_30 rfl ?_
      refine z_iconst C dX7_tests_32 ?_
      refine z_iload_n C dX7_tests_33 rfl ?_
      refine z_imul C dX7_tests_34 ?_
      refine z_icmp_ge C (tgt := 180) dX7_tests_35 (by decide) (by first | omega | exact b2i_r) (by first | omega | exact b2i_r) (fun h35 => ?_) (fun h35 => ?_)
      · exact z_vret2 C hQ rfl dX7_tests_180 ⟨rfl, rfl, rfl, rfl, by rw [show k = 2 * (I (o + 1) 3).toNat by omega], rfl⟩
      · refine z_aload_n C dX7_tests_38 rfl ?_
        refine z_gR C (ci := 7) (k := 7) rfl (by decide) rfl (by decide) wl_7 wq_4_8 (by decide) dX7_tests_39 (by assumption) (by assumption) ?_
        refine z_iload C dX7_tests_42 rfl ?_
        refine z_iload_n C dX7_tests_44 rfl ?_
        refine z_icmp_ge C (tgt := 53) dX7_tests_45 (by decide) (by first | omega | exact b2i_r) (by first | omega | exact b2i_r) (fun h45 => ?_) (fun h45 => ?_)
        · refine z_iconst C dX7_tests_53 ?_
          refine z_iload_n C dX7_tests_54 rfl ?_
          refine z_imul C dX7_tests_55 ?_
          refine z_iconst C dX7_tests_56 ?_
          refine z_isub C dX7_tests_57 ?_
          refine z_iload C dX7_tests_58 rfl ?_
          refine z_isub C dX7_tests_60 ?_
          refine z_conv rfl rfl rfl (st' := [.int (zI (((if k < (I (o + 1) 3).toNat then k else 2 * (I (o + 1) 3).toNat - 1 - k : Nat)) : Int)), .ref (o + 6)]) ?_ (hmid n k (by omega) (by omega) ih)
          first | rw [if_pos (show k < (I (o + 1) 3).toNat by omega)] | rw [if_neg (show ¬ k < (I (o + 1) 3).toNat by omega), show 2 * I (o + 1) 3 - 1 - (k : Int) = ((2 * (I (o + 1) 3).toNat - 1 - k : Nat) : Int) by omega]
        · refine z_iload C dX7_tests_48 rfl ?_
          refine z_goto C (tgt := 61) dX7_tests_50 (by decide) ?_
          refine z_conv rfl rfl rfl (st' := [.int (zI (((if k < (I (o + 1) 3).toNat then k else 2 * (I (o + 1) 3).toNat - 1 - k : Nat)) : Int)), .ref (o + 6)]) ?_ (hmid n k (by omega) (by omega) ih)
          first | rw [if_pos (show k < (I (o + 1) 3).toNat by omega)] | rw [if_neg (show ¬ k < (I (o + 1) 3).toNat by omega), show 2 * I (o + 1) 3 - 1 - (k : Int) = ((2 * (I (o + 1) 3).toNat - 1 - k : Nat) : Int) by omega]
  refine z_aload_n C dX7_tests_0 rfl ?_
  refine z_gR C (ci := 7) (k := 0) rfl (by decide) rfl (by decide) wl_7 wq_4_3 (by decide) dX7_tests_1 (by assumption) (by assumption) ?_
  refine z_iconst C dX7_tests_4 ?_
  refine z_ialdk C (3) dX7_tests_5 (by assumption) (by first | rfl | omega) (by omega) (by omega) ?_
  refine z_istore_n C dX7_tests_6 (by decide) rfl ?_
  refine z_iconst C dX7_tests_7 ?_
  refine z_istore C dX7_tests_8 (by decide) rfl ?_
  refine z_iconst C dX7_tests_10 ?_
  refine z_istore C dX7_tests_11 (by decide) rfl ?_
  refine z_aload_n C dX7_tests_13 rfl ?_
  refine z_iconst C dX7_tests_14 ?_
  refine z_pI C (ci := 7) (k := 9) rfl (by decide) rfl (by decide) tyX7_ok nmX7 wl_7 wq_19_1 rfl (Or.inl rfl) dX7_tests_15 (by assumption) ?_
  refine z_aload_n C dX7_tests_18 rfl ?_
  refine z_iconst C dX7_tests_19 ?_
  refine z_pI C (ci := 7) (k := 10) rfl (by decide) rfl (by decide) tyX7_ok nmX7 wl_7 wq_19_6 rfl (Or.inl rfl) dX7_tests_20 (by assumption) ?_
  refine z_aload_n C dX7_tests_23 rfl ?_
  refine z_callVd C (ci := 7) rfl (by decide) (by first | assumption | exact hM.1) (mX7_findOrder l G hM (by rw [u2_row (by omega), u2_row (by omega)]; exact hO)) (cwV 0 C.2.2.2.2.1 gv7_91 rfl rfl rfl hd_X7_findOrder ⟨Nat.le_of_ble_eq_true rfl, Nat.le_of_ble_eq_true rfl⟩) rfl rfl (Nat.le_of_ble_eq_true rfl) dX7_tests_24 ⟨Nat.zero_le _, Nat.zero_le _⟩ ?_
  rw [tstM_0 I o er (I (o + 1) (21 + 36 * g)) (I (o + 1) (22 + 36 * g))]
  refine z_iconst C dX7_tests_27 ?_
  refine z_istore C dX7_tests_28 (by decide) rfl ?_
  exact hloop 29 0 (by omega) (by omega)

