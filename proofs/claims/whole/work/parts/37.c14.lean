theorem okB_mono (n : Nat) {k : Nat} (h : okB n k = 0) : ∀ q : Nat, k ≤ q → okB n q = 0
  | 0, hq => by rw [show k = 0 by omega] at h; exact h
  | q + 1, hq => by
    by_cases e : k = q + 1
    · rw [← e]; exact h
    · rw [okB_s, if_neg (fun z => z.1 (okB_mono n h q (by omega)))]
theorem lenB_ge (n : Nat) : ∀ q k : Nat, k ≤ lenB n q k
  | 0, k => Nat.le_refl k
  | q + 1, k => by
    rw [lenB_s]
    split
    · exact Nat.le_refl k
    · have := lenB_ge n q (k + 1); omega
def hoM (n : Nat) : Int := if putBad n then 0 else (putK n : Int)
set_option maxHeartbeats 4000000 in
set_option maxRecDepth 100000 in
theorem mX3_howMany (l : Launch) (G : GG) {z : Nat} {K N : Nat → Nat} {I : MI} {R : MR} {n : Nat} (hn : n < 2 ^ 64) : Cod l G yX3_howMany (Cond.code yX3_howMany cX3_howMany 5 (some .int) :: wsL_law) ⟨0, 0, 0, 0⟩ [.long (zU n)] z K N I R (some (.int (zI (hoM n)))) I R := by
  refine Con.of (own := RX3) (cc := cX3_howMany) (maxL := 5) (ret := (some .int)) (by decide +kernel) rfl rfl (Nat.le_of_ble_eq_true rfl) (by decide) rfl ?_
  intro p e9 s mt args below meth c Q hin hQ C
  have hloop : ∀ (q : Nat) (k : Nat), k ≤ 8 → 8 - k < q → okB n k = 1 → lenB n (8 - k) k = putK n → Zq p l e9 ⟨0, 0, 0, 0⟩ s mt args below meth c G 5 Q 0 0 z K N I R 2 [(0, .long (zU n)), (2, .int (zI (k : Int)))] [] := by
    intro q
    induction q with
    | zero => intro k h1 h2; exact absurd h2 (by omega)
    | succ q ih =>
      intro k h1 h2 hok hk
      have hb8 := by8_lt n k
      have hdn : n / 2 ^ (8 * k) ≤ n := Nat.div_le_self _ _
      have hc15 := cmU_rng (n / 2 ^ (8 * k)) 0
      have hc34 := cmU_rng (by8 n k) 33
      have hc41 := cmU_rng (by8 n k) 126
      have hl33 := cmU_lt (a := by8 n k) (b := 33) (by omega)
      have hl126 := cmU_le (a := by8 n k) (b := 126) (by omega)
      refine z_iload_n C dX3_howMany_2 rfl ?_
      refine z_bipush C dX3_howMany_3 (by decide) ?_
      refine z_icmp_ge C (tgt := 54) dX3_howMany_5 (by decide) (by first | omega | exact b2i_r) (by first | omega | exact b2i_r) (fun h5 => ?_) (fun h5 => ?_)
      · have hpk : putK n = k ∧ n / 2 ^ (8 * k) = 0 := by
          first
          | (have h8 : k = 8 := by omega
             subst h8
             exact ⟨hk.symm, Nat.div_eq_of_lt (by omega)⟩)
          | (have hz0 := (cmU_0 _).mp h16
             refine ⟨?_, hz0⟩
             by_cases h8 : k = 8
             · subst h8; exact hk.symm
             · rw [← hk, show 8 - k = (7 - k) + 1 by omega, lenB_s, if_pos (by unfold by8; rw [hz0])])
        have hres : hoM n = (k : Int) := by
          unfold hoM
          by_cases h0 : k = 0
          · rw [if_pos (Or.inl (by omega))]; omega
          · rw [if_neg, hpk.1]
            show ¬ (putK n = 0 ∨ okB n (putK n) = 0 ∨ ¬ n / 2 ^ (8 * putK n) = 0)
            rw [hpk.1]
            rintro (z | z | z)
            · exact h0 z
            · omega
            · exact z hpk.2
        refine z_iload_n C dX3_howMany_54 rfl ?_
        exact z_iret2 C hQ rfl dX3_howMany_55 ⟨zr (by first | exact hres.symm | exact (if_pos hbad).symm), rfl, rfl, rfl, rfl, rfl⟩
      · refine z_lload_n C dX3_howMany_8 rfl ?_
        refine z_bipush C dX3_howMany_9 (by decide) ?_
        refine z_iload_n C dX3_howMany_11 rfl ?_
        refine z_imul C dX3_howMany_12 ?_
        rw [show (8 : Int) * (k : Int) = ((8 * k : Nat) : Int) by omega]
        refine z_lushr C (by omega) (by omega) dX3_howMany_13 ?_
        refine z_lconst C 0 rfl dX3_howMany_14 ?_
        refine z_lcmp C (by omega) (by omega) dX3_howMany_15 ?_
        refine z_if_eq C (tgt := 54) dX3_howMany_16 (by decide) (by first | omega | exact b2i_r) (fun h16 => ?_) (fun h16 => ?_)
        · have hpk : putK n = k ∧ n / 2 ^ (8 * k) = 0 := by
            first
            | (have h8 : k = 8 := by omega
               subst h8
               exact ⟨hk.symm, Nat.div_eq_of_lt (by omega)⟩)
            | (have hz0 := (cmU_0 _).mp h16
               refine ⟨?_, hz0⟩
               by_cases h8 : k = 8
               · subst h8; exact hk.symm
               · rw [← hk, show 8 - k = (7 - k) + 1 by omega, lenB_s, if_pos (by unfold by8; rw [hz0])])
          have hres : hoM n = (k : Int) := by
            unfold hoM
            by_cases h0 : k = 0
            · rw [if_pos (Or.inl (by omega))]; omega
            · rw [if_neg, hpk.1]
              show ¬ (putK n = 0 ∨ okB n (putK n) = 0 ∨ ¬ n / 2 ^ (8 * putK n) = 0)
              rw [hpk.1]
              rintro (z | z | z)
              · exact h0 z
              · omega
              · exact z hpk.2
          refine z_iload_n C dX3_howMany_54 rfl ?_
          exact z_iret2 C hQ rfl dX3_howMany_55 ⟨zr (by first | exact hres.symm | exact (if_pos hbad).symm), rfl, rfl, rfl, rfl, rfl⟩
        · refine z_lload_n C dX3_howMany_19 rfl ?_
          refine z_bipush C dX3_howMany_20 (by decide) ?_
          refine z_iload_n C dX3_howMany_22 rfl ?_
          refine z_imul C dX3_howMany_23 ?_
          rw [show (8 : Int) * (k : Int) = ((8 * k : Nat) : Int) by omega]
          refine z_lushr C (by omega) (by omega) dX3_howMany_24 ?_
          refine z_ldc2 C 255 (by decide) dX3_howMany_25 wq_25_17 ?_
          refine z_land C 8 rfl (by decide) (by omega) dX3_howMany_28 ?_
          rw [show n / 2 ^ (8 * k) % 2 ^ 8 = by8 n k from rfl]
          refine z_lstore_n C (i := 3) (lv' := [(3, .long (zU (by8 n k))), (0, .long (zU n)), (2, .int (zI (k : Int)))]) dX3_howMany_29 rfl (by decide) rfl rfl ?_
          refine z_lload_n C dX3_howMany_30 rfl ?_
          refine z_ldc2 C 33 (by decide) dX3_howMany_31 wq_25_21 ?_
          refine z_lcmp C (by omega) (by omega) dX3_howMany_34 ?_
          refine z_if_lt C (tgt := 46) dX3_howMany_35 (by decide) (by first | omega | exact b2i_r) (fun h35 => ?_) (fun h35 => ?_)
          · have hbad : putBad n := by
              by_cases hz : by8 n k = 0
              · have hpk : putK n = k := by rw [← hk, show 8 - k = (7 - k) + 1 by omega, lenB_s, if_pos hz]
                show putK n = 0 ∨ okB n (putK n) = 0 ∨ ¬ n / 2 ^ (8 * putK n) = 0
                rw [hpk]
                exact Or.inr (Or.inr (fun z => h16 ((cmU_0 _).mpr z)))
              · have hpk : k + 1 ≤ putK n := by rw [← hk, show 8 - k = (7 - k) + 1 by omega, lenB_s, if_neg hz]; exact lenB_ge n _ _
                refine Or.inr (Or.inl (okB_mono n (k := k + 1) ?_ _ hpk))
                rw [okB_s, if_neg (fun z => by omega)]
            refine z_iconst C dX3_howMany_46 ?_
            exact z_iret2 C hQ rfl dX3_howMany_47 ⟨zr (by first | exact hres.symm | exact (if_pos hbad).symm), rfl, rfl, rfl, rfl, rfl⟩
          · refine z_lload_n C dX3_howMany_38 rfl ?_
            refine z_ldc2 C 126 (by decide) dX3_howMany_39 wq_25_22 ?_
            refine z_lcmp C (by omega) (by omega) dX3_howMany_42 ?_
            refine z_if_le C (tgt := 48) dX3_howMany_43 (by decide) (by first | omega | exact b2i_r) (fun h43 => ?_) (fun h43 => ?_)
            · have hz : ¬ by8 n k = 0 := by omega
              rw [show 8 - k = (8 - (k + 1)) + 1 by omega, lenB_s, if_neg hz] at hk
              have hok2 : okB n (k + 1) = 1 := by rw [okB_s, if_pos ⟨by omega, by omega, by omega⟩]
              refine z_iinc C dX3_howMany_48 rfl (by decide) rfl ?_
              refine z_goto C (tgt := 2) dX3_howMany_51 (by decide) ?_
              rw [show (k : Int) + 1 = ((k + 1 : Nat) : Int) by omega]
              exact z_sub [1, 2] rfl rfl (ih (k + 1) (by omega) (by omega) hok2 hk)
            · have hbad : putBad n := by
                by_cases hz : by8 n k = 0
                · have hpk : putK n = k := by rw [← hk, show 8 - k = (7 - k) + 1 by omega, lenB_s, if_pos hz]
                  show putK n = 0 ∨ okB n (putK n) = 0 ∨ ¬ n / 2 ^ (8 * putK n) = 0
                  rw [hpk]
                  exact Or.inr (Or.inr (fun z => h16 ((cmU_0 _).mpr z)))
                · have hpk : k + 1 ≤ putK n := by rw [← hk, show 8 - k = (7 - k) + 1 by omega, lenB_s, if_neg hz]; exact lenB_ge n _ _
                  refine Or.inr (Or.inl (okB_mono n (k := k + 1) ?_ _ hpk))
                  rw [okB_s, if_neg (fun z => by omega)]
              refine z_iconst C dX3_howMany_46 ?_
              exact z_iret2 C hQ rfl dX3_howMany_47 ⟨zr (by first | exact hres.symm | exact (if_pos hbad).symm), rfl, rfl, rfl, rfl, rfl⟩
  refine z_iconst C dX3_howMany_0 ?_
  refine z_istore_n C dX3_howMany_1 (by decide) rfl ?_
  exact hloop 9 0 (by omega) (by omega) rfl rfl

