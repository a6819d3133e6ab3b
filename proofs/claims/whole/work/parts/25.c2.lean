def ceI (I : MI) (r : Option Nat) (k : Nat) : Int := match r with
  | none => -6
  | some c => I c k
def telV (I : MI) (R : MR) (a : Nat) (wh : Int) : Int := if wh = 0 then I a 0 + 100 else if wh = 1 then I a 1 else if wh = 2 then I a 2 else if wh = 3 then I a 3 else if wh = 4 then rnd (I a 3) (I a 2) * I a 2 else if wh = 5 then hasC (R a 4) else if wh = 6 then ceI I (R a 4) 1 else if wh = 7 then ceI I (R a 4) 2 else -2
def plT (F : Nat → Int) (r : Nat) : Nat → Int
  | 0 => 0
  | i + 1 => plT F r i + b2i (F i < F r ∨ (F i = F r ∧ i < r))
theorem plT_s (F : Nat → Int) (r i : Nat) : plT F r (i + 1) = plT F r i + b2i (F i < F r ∨ (F i = F r ∧ i < r)) := rfl
theorem plT_r (F : Nat → Int) (r : Nat) : ∀ i : Nat, 0 ≤ plT F r i ∧ plT F r i ≤ i
  | 0 => by simp [plT]
  | i + 1 => by
    have := plT_r F r i
    have := b2i_01 (p := F i < F r ∨ (F i = F r ∧ i < r))
    rw [plT_s]; omega
theorem cerN_s (R : MR) (t n : Nat) : cerN R t (n + 1) = cerN R t n + hasC (R (t + 4 + n) 4) := rfl
theorem ShT.vo {G : GG} {z : Nat} {K N : Nat → Nat} {R : MR} {t : Nat} (h : ShT G z K N R t) (n : Nat) : ShT G z K N (voR R t n) t := by
  obtain ⟨a, ⟨b0, b1, b2⟩, c, d, e⟩ := h
  refine ⟨a, ⟨?_, ?_, ?_⟩, c, d, fun i hi => ⟨(e i hi).1, ?_⟩⟩
  · rw [voR_n _ _ _ _ _ (by omega)]; exact b0
  · rw [voR_n _ _ _ _ _ (by omega)]; exact b1
  · rw [voR_n _ _ _ _ _ (by omega)]; exact b2
  · rw [voR_n _ _ _ _ _ (by omega)]; exact (e i hi).2
theorem TN.cong {I : MI} {t : Nat} {f f' : Nat → Int} (h : TN I t f) (h3 : f 3 ≤ 14) (h1 : ∀ j : Nat, j < 20 → f' j = f j) (h2 : ∀ g j : Nat, j < 4 → f' (20 + 36 * g + j) = f (20 + 36 * g + j)) : TN I t f' := by
  obtain ⟨⟨a, b, c⟩, ⟨d, e, k⟩, m, n⟩ := h
  refine ⟨⟨?_, ?_, ?_⟩, ⟨?_, ?_, ?_⟩, fun r hr => ?_, fun g hg => ?_⟩
  · rw [h1 0 (by omega)]; exact a
  · rw [h1 1 (by omega)]; exact b
  · rw [h1 2 (by omega)]; exact c
  · rw [h1 3 (by omega)]; exact d
  · rw [h1 4 (by omega)]; exact e
  · rw [h1 5 (by omega)]; exact k
  · rw [h1 3 (by omega)] at hr
    rw [h1 _ (by omega)]; exact m r hr
  · rw [h1 5 (by omega)] at hg
    obtain ⟨q0, q1, q2, q3⟩ := n g hg
    have e0 := h2 g 0 (by omega)
    have e1 := h2 g 1 (by omega)
    have e2 := h2 g 2 (by omega)
    have e3 := h2 g 3 (by omega)
    rw [show 20 + 36 * g + 0 = 20 + 36 * g by omega] at e0
    rw [show 20 + 36 * g + 1 = 21 + 36 * g by omega] at e1
    rw [show 20 + 36 * g + 2 = 22 + 36 * g by omega] at e2
    rw [show 20 + 36 * g + 3 = 23 + 36 * g by omega] at e3
    exact ⟨q0.trans e0.symm, q1.trans e1.symm, q2.trans e2.symm, q3.trans e3.symm⟩
theorem TN.voids {I : MI} {t : Nat} {f : Nat → Int} (h : TN I t f) (h3 : f 3 ≤ 14) : TN I t (voidsF f) :=
  h.cong h3 (fun j hj => if_neg (by omega)) (fun g j hj => if_neg (by omega))
theorem TN.void {I : MI} {t : Nat} {f : Nat → Int} (h : TN I t f) (h3 : f 3 ≤ 14) (q : Nat) : TN I t (voidF q f) :=
  h.cong h3 (fun j hj => if_neg (by omega)) (fun g j hj => if_neg (by omega))
theorem TN.set {I : MI} {t : Nat} {f : Nat → Int} (h : TN I t f) (h3 : f 3 ≤ 14) {s : Nat} (hs : s < 3) (v : Int) : TN (u2 I (t + 1) s v) t (st1 f s v) := by
  obtain ⟨⟨a, b, c⟩, ⟨d, e, k⟩, m, n⟩ := h
  have hx : ∀ j : Nat, j < 3 → I (t + 1) j = f j → u2 I (t + 1) s v (t + 1) j = st1 f s v j := fun j hj hh => by
    by_cases e : j = s
    · subst e; rw [u2_s, st1_s]
    · rw [u2_k e, st1_n e]; exact hh
  refine ⟨⟨hx 0 (by omega) a, hx 1 (by omega) b, hx 2 (by omega) c⟩, ⟨?_, ?_, ?_⟩, fun r hr => ?_, fun g hg => ?_⟩
  · rw [u2_row (by omega), st1_n (by omega)]; exact d
  · rw [u2_row (by omega), st1_n (by omega)]; exact e
  · rw [u2_row (by omega), st1_n (by omega)]; exact k
  · rw [st1_n (by omega)] at hr
    rw [u2_row (by omega), st1_n (by omega)]; exact m r hr
  · rw [st1_n (by omega)] at hg
    rw [u2_row (by omega), st1_n (by omega), st1_n (by omega), st1_n (by omega), st1_n (by omega)]; exact n g hg
theorem TN.e_setsV {I : MI} {t : Nat} {f : Nat → Int} (h : TN I t f) (h3 : f 3 ≤ 14) {s : Nat} (hs : s < 3) (v : Int) : TN (u2 I (t + 1) s v) t (setsV f s v) := by
  have h1 := h.set h3 hs v
  have h4 : st1 f s v 3 ≤ 14 := by rw [st1_n (by omega)]; exact h3
  by_cases e : s = 1
  · rw [show setsV f s v = voidsF (st1 f s v) from if_pos e]; exact h1.voids h4
  · rw [show setsV f s v = st1 f s v from if_neg e]; exact h1
theorem TN.hands {I : MI} {t : Nat} {f : Nat → Int} (h : TN I t f) (h3 : f 3 ≤ 14) : TN (haI I t (prsA f (f 4)) (f 5).toNat) t (handsF f) := by
  obtain ⟨⟨a, b, c⟩, ⟨d, e, k⟩, m, n⟩ := h
  have hf : ∀ j : Nat, j < 20 → handsF f j = f j := fun j hj => if_neg (by omega)
  refine ⟨⟨?_, ?_, ?_⟩, ⟨?_, ?_, ?_⟩, fun r hr => ?_, fun g hg => ?_⟩
  · rw [haI_n _ _ _ _ _ _ (by omega), hf _ (by omega)]; exact a
  · rw [haI_n _ _ _ _ _ _ (by omega), hf _ (by omega)]; exact b
  · rw [haI_n _ _ _ _ _ _ (by omega), hf _ (by omega)]; exact c
  · rw [haI_n _ _ _ _ _ _ (by omega), hf _ (by omega)]; exact d
  · rw [haI_n _ _ _ _ _ _ (by omega), hf _ (by omega)]; exact e
  · rw [haI_n _ _ _ _ _ _ (by omega), hf _ (by omega)]; exact k
  · rw [hf _ (by omega)] at hr
    rw [haI_n _ _ _ _ _ _ (by omega), hf _ (by omega)]; exact m r hr
  · rw [hf _ (by omega)] at hg
    obtain ⟨q0, q1, q2, q3⟩ := n g hg
    have e0 : handsF f (20 + 36 * g) = f (20 + 36 * g) := if_neg (by omega)
    have e1 : handsF f (21 + 36 * g) = f (21 + 36 * g) := if_neg (by omega)
    have e2 : handsF f (22 + 36 * g) = f (22 + 36 * g) := if_neg (by omega)
    have e3 : handsF f (23 + 36 * g) = goes (f (23 + 36 * g)) (prsA f (f 4)) (f (20 + 36 * g)) (f (21 + 36 * g)) := by
      unfold handsF handsP
      rw [if_pos (by omega), show 23 + 36 * g - 3 = 20 + 36 * g by omega, show 23 + 36 * g - 2 = 21 + 36 * g by omega]
    rw [haI_n _ _ _ _ _ _ (by omega), haI_n _ _ _ _ _ _ (by omega), haI_n _ _ _ _ _ _ (by omega), e0, e1, e2, e3]
    refine ⟨q0, q1, q2, ?_⟩
    rw [show haI I t (prsA f (f 4)) (f 5).toNat (t + 4 + g) 3 = goes (I (t + 4 + g) 3) (prsA f (f 4)) (I (t + 4 + g) 0) (I (t + 4 + g) 1) from if_pos (by omega), q3, q0, q1]
set_option maxHeartbeats 4000000 in
set_option maxRecDepth 100000 in
theorem mX1_tell (l : Launch) (G : GG) {z : Nat} {K N : Nat → Nat} {I : MI} {R : MR} {a : Nat} (ha : zK G z K a 1) (hh : 0 ≤ I a 3 ∧ I a 3 ≤ 16000000) (hs : 1 ≤ I a 2 ∧ I a 2 ≤ 99) (hc : ∀ c, R a 4 = some c → zK G z K c 0) {wh : Int} (hwh : -2147483648 ≤ wh ∧ wh < 2147483648) : Cod l G yX1_tell (Cond.code yX1_tell cX1_tell 2 (some .int) :: wsL_law) ⟨2, 0, 0, 41⟩ [.ref a, .int (zI wh)] z K N I R (some (.int (zI (telV I R a wh)))) I R := by
  refine Con.of (own := RX1) (cc := cX1_tell) (maxL := 2) (ret := (some .int)) (by decide +kernel) rfl rfl (Nat.le_of_ble_eq_true rfl) (by decide) rfl ?_
  intro p e9 s mt args below meth c Q hin hQ C
  refine z_iload_n C dX1_tell_0 rfl ?_
  by_cases hs1 : wh < 0 ∨ 7 < wh
  · refine z_tout C (tgt := 129) dX1_tell_1 (by omega) hs1 (by decide) ?_
    refine z_bipush C dX1_tell_129 (by decide) ?_
    exact z_iret2 C hQ rfl dX1_tell_131 ⟨zr (by first | (subst hv; rfl) | (subst hv; show _ = hasC (R a 4); rw [h80]; rfl) | (subst hv; show _ = ceI I (R a 4) 1; rw [h93]; rfl) | (subst hv; show _ = ceI I (R a 4) 2; rw [h113]; rfl) | (unfold telV; (repeat' split) <;> omega)), rfl, rfl, rfl, rfl, rfl⟩
  · rcases (show wh = 0 ∨ wh = 1 ∨ wh = 2 ∨ wh = 3 ∨ wh = 4 ∨ wh = 5 ∨ wh = 6 ∨ wh = 7 by omega) with hv | hv | hv | hv | hv | hv | hv | hv
    · refine z_tin C (tgt := 48) 0 dX1_tell_1 hv (by decide) (by decide) (by decide) rfl (by decide) ?_
      refine z_aload_n C dX1_tell_48 rfl ?_
      refine z_gI C (ci := 1) (k := 0) rfl (by decide) rfl (by decide) wl_1 wq_5_10 rfl dX1_tell_49 (by assumption) ?_
      refine z_bipush C dX1_tell_52 (by decide) ?_
      refine z_iadd C dX1_tell_54 ?_
      exact z_iret2 C hQ rfl dX1_tell_55 ⟨zr (by first | (subst hv; rfl) | (subst hv; show _ = hasC (R a 4); rw [h80]; rfl) | (subst hv; show _ = ceI I (R a 4) 1; rw [h93]; rfl) | (subst hv; show _ = ceI I (R a 4) 2; rw [h113]; rfl) | (unfold telV; (repeat' split) <;> omega)), rfl, rfl, rfl, rfl, rfl⟩
    · refine z_tin C (tgt := 56) 1 dX1_tell_1 hv (by decide) (by decide) (by decide) rfl (by decide) ?_
      refine z_aload_n C dX1_tell_56 rfl ?_
      refine z_gI C (ci := 1) (k := 1) rfl (by decide) rfl (by decide) wl_1 wq_5_11 rfl dX1_tell_57 (by assumption) ?_
      exact z_iret2 C hQ rfl dX1_tell_60 ⟨zr (by first | (subst hv; rfl) | (subst hv; show _ = hasC (R a 4); rw [h80]; rfl) | (subst hv; show _ = ceI I (R a 4) 1; rw [h93]; rfl) | (subst hv; show _ = ceI I (R a 4) 2; rw [h113]; rfl) | (unfold telV; (repeat' split) <;> omega)), rfl, rfl, rfl, rfl, rfl⟩
    · refine z_tin C (tgt := 61) 2 dX1_tell_1 hv (by decide) (by decide) (by decide) rfl (by decide) ?_
      refine z_aload_n C dX1_tell_61 rfl ?_
      refine z_gI C (ci := 1) (k := 2) rfl (by decide) rfl (by decide) wl_1 wq_5_12 rfl dX1_tell_62 (by assumption) ?_
      exact z_iret2 C hQ rfl dX1_tell_65 ⟨zr (by first | (subst hv; rfl) | (subst hv; show _ = hasC (R a 4); rw [h80]; rfl) | (subst hv; show _ = ceI I (R a 4) 1; rw [h93]; rfl) | (subst hv; show _ = ceI I (R a 4) 2; rw [h113]; rfl) | (unfold telV; (repeat' split) <;> omega)), rfl, rfl, rfl, rfl, rfl⟩
    · refine z_tin C (tgt := 66) 3 dX1_tell_1 hv (by decide) (by decide) (by decide) rfl (by decide) ?_
      refine z_aload_n C dX1_tell_66 rfl ?_
      refine z_gI C (ci := 1) (k := 3) rfl (by decide) rfl (by decide) wl_1 wq_5_13 rfl dX1_tell_67 (by assumption) ?_
      exact z_iret2 C hQ rfl dX1_tell_70 ⟨zr (by first | (subst hv; rfl) | (subst hv; show _ = hasC (R a 4); rw [h80]; rfl) | (subst hv; show _ = ceI I (R a 4) 1; rw [h93]; rfl) | (subst hv; show _ = ceI I (R a 4) 2; rw [h113]; rfl) | (unfold telV; (repeat' split) <;> omega)), rfl, rfl, rfl, rfl, rfl⟩
    · refine z_tin C (tgt := 71) 4 dX1_tell_1 hv (by decide) (by decide) (by decide) rfl (by decide) ?_
      refine z_aload_n C dX1_tell_71 rfl ?_
      refine z_callVd C (ci := 1) rfl (by decide) (by first | assumption | exact hM.1) (mX1_shown l G ha hh hs) (cwV 0 C.2.2.2.2.1 gv1_41 rfl rfl rfl hd_X1_shown ⟨Nat.le_of_ble_eq_true rfl, Nat.le_of_ble_eq_true rfl⟩) rfl rfl (Nat.le_of_ble_eq_true rfl) dX1_tell_72 ⟨Nat.zero_le _, Nat.zero_le _⟩ ?_
      exact z_iret2 C hQ rfl dX1_tell_75 ⟨zr (by first | (subst hv; rfl) | (subst hv; show _ = hasC (R a 4); rw [h80]; rfl) | (subst hv; show _ = ceI I (R a 4) 1; rw [h93]; rfl) | (subst hv; show _ = ceI I (R a 4) 2; rw [h113]; rfl) | (unfold telV; (repeat' split) <;> omega)), rfl, rfl, rfl, rfl, rfl⟩
    · refine z_tin C (tgt := 76) 5 dX1_tell_1 hv (by decide) (by decide) (by decide) rfl (by decide) ?_
      refine z_aload_n C dX1_tell_76 rfl ?_
      refine z_gO C (ci := 1) (k := 4) rfl (by decide) rfl (by decide) wl_1 wq_5_14 (by decide) dX1_tell_77 (by assumption) ?_
      refine z_ifnonnull C (tgt := 87) dX1_tell_80 (by decide) (fun x80 h80 => ?_) (fun h80 => ?_)
      · refine z_iconst C dX1_tell_87 ?_
        exact z_iret2 C hQ rfl dX1_tell_88 ⟨zr (by first | (subst hv; rfl) | (subst hv; show _ = hasC (R a 4); rw [h80]; rfl) | (subst hv; show _ = ceI I (R a 4) 1; rw [h93]; rfl) | (subst hv; show _ = ceI I (R a 4) 2; rw [h113]; rfl) | (unfold telV; (repeat' split) <;> omega)), rfl, rfl, rfl, rfl, rfl⟩
      · refine z_iconst C dX1_tell_83 ?_
        refine z_goto C (tgt := 88) dX1_tell_84 (by decide) ?_
        exact z_iret2 C hQ rfl dX1_tell_88 ⟨zr (by first | (subst hv; rfl) | (subst hv; show _ = hasC (R a 4); rw [h80]; rfl) | (subst hv; show _ = ceI I (R a 4) 1; rw [h93]; rfl) | (subst hv; show _ = ceI I (R a 4) 2; rw [h113]; rfl) | (unfold telV; (repeat' split) <;> omega)), rfl, rfl, rfl, rfl, rfl⟩
    · refine z_tin C (tgt := 89) 6 dX1_tell_1 hv (by decide) (by decide) (by decide) rfl (by decide) ?_
      refine z_aload_n C dX1_tell_89 rfl ?_
      refine z_gO C (ci := 1) (k := 4) rfl (by decide) rfl (by decide) wl_1 wq_5_14 (by decide) dX1_tell_90 (by assumption) ?_
      refine z_ifnonnull C (tgt := 101) dX1_tell_93 (by decide) (fun x93 h93 => ?_) (fun h93 => ?_)
      · refine z_aload_n C dX1_tell_101 rfl ?_
        refine z_gO C (ci := 1) (k := 4) rfl (by decide) rfl (by decide) wl_1 wq_5_14 (by decide) dX1_tell_102 (by assumption) ?_
        have kc9 := hc x93 h93
        refine z_top (y := .ref x93) (by rw [h93]; rfl) ?_
        refine z_gI C (ci := 0) (k := 1) rfl (by decide) rfl (by decide) wl_0 wq_20_15 rfl dX1_tell_105 (by assumption) ?_
        exact z_iret2 C hQ rfl dX1_tell_108 ⟨zr (by first | (subst hv; rfl) | (subst hv; show _ = hasC (R a 4); rw [h80]; rfl) | (subst hv; show _ = ceI I (R a 4) 1; rw [h93]; rfl) | (subst hv; show _ = ceI I (R a 4) 2; rw [h113]; rfl) | (unfold telV; (repeat' split) <;> omega)), rfl, rfl, rfl, rfl, rfl⟩
      · refine z_bipush C dX1_tell_96 (by decide) ?_
        refine z_goto C (tgt := 108) dX1_tell_98 (by decide) ?_
        exact z_iret2 C hQ rfl dX1_tell_108 ⟨zr (by first | (subst hv; rfl) | (subst hv; show _ = hasC (R a 4); rw [h80]; rfl) | (subst hv; show _ = ceI I (R a 4) 1; rw [h93]; rfl) | (subst hv; show _ = ceI I (R a 4) 2; rw [h113]; rfl) | (unfold telV; (repeat' split) <;> omega)), rfl, rfl, rfl, rfl, rfl⟩
    · refine z_tin C (tgt := 109) 7 dX1_tell_1 hv (by decide) (by decide) (by decide) rfl (by decide) ?_
      refine z_aload_n C dX1_tell_109 rfl ?_
      refine z_gO C (ci := 1) (k := 4) rfl (by decide) rfl (by decide) wl_1 wq_5_14 (by decide) dX1_tell_110 (by assumption) ?_
      refine z_ifnonnull C (tgt := 121) dX1_tell_113 (by decide) (fun x113 h113 => ?_) (fun h113 => ?_)
      · refine z_aload_n C dX1_tell_121 rfl ?_
        refine z_gO C (ci := 1) (k := 4) rfl (by decide) rfl (by decide) wl_1 wq_5_14 (by decide) dX1_tell_122 (by assumption) ?_
        have kc9 := hc x113 h113
        refine z_top (y := .ref x113) (by rw [h113]; rfl) ?_
        refine z_gI C (ci := 0) (k := 2) rfl (by decide) rfl (by decide) wl_0 wq_20_16 rfl dX1_tell_125 (by assumption) ?_
        exact z_iret2 C hQ rfl dX1_tell_128 ⟨zr (by first | (subst hv; rfl) | (subst hv; show _ = hasC (R a 4); rw [h80]; rfl) | (subst hv; show _ = ceI I (R a 4) 1; rw [h93]; rfl) | (subst hv; show _ = ceI I (R a 4) 2; rw [h113]; rfl) | (unfold telV; (repeat' split) <;> omega)), rfl, rfl, rfl, rfl, rfl⟩
      · refine z_bipush C dX1_tell_116 (by decide) ?_
        refine z_goto C (tgt := 128) dX1_tell_118 (by decide) ?_
        exact z_iret2 C hQ rfl dX1_tell_128 ⟨zr (by first | (subst hv; rfl) | (subst hv; show _ = hasC (R a 4); rw [h80]; rfl) | (subst hv; show _ = ceI I (R a 4) 1; rw [h93]; rfl) | (subst hv; show _ = ceI I (R a 4) 2; rw [h113]; rfl) | (unfold telV; (repeat' split) <;> omega)), rfl, rfl, rfl, rfl, rfl⟩

set_option maxHeartbeats 4000000 in
set_option maxRecDepth 100000 in
theorem mX4_placeOf (l : Launch) (G : GG) {z : Nat} {K N : Nat → Nat} {I : MI} {R : MR} {t : Nat} (hM : ShT G z K N R t) {f : Nat → Int} (hV : TN I t f) (hO : Ok f) {r : Nat} (hr : (r : Int) < f 3) : Cod l G yX4_placeOf (Cond.code yX4_placeOf cX4_placeOf 4 (some .int) :: wsL_law) ⟨0, 0, 0, 0⟩ [.ref t, .int (zI (r : Int))] z K N I R (some (.int (zI (plT (I (t + 2)) r (I t 3).toNat)))) I R := by
  refine Con.of (own := RX4) (cc := cX4_placeOf) (maxL := 4) (ret := (some .int)) (by decide +kernel) rfl rfl (Nat.le_of_ble_eq_true rfl) (by decide) rfl ?_
  intro p e9 s mt args below meth c Q hin hQ C
  obtain ⟨ho, ⟨r0, r1, r2⟩, ⟨k1, k2, k3⟩, ⟨n1, n2, n3⟩, hg⟩ := id hM
  obtain ⟨⟨v0, v1, v2⟩, ⟨v3, v4, v5⟩, vr, vg⟩ := id hV
  obtain ⟨b0, b1, b2, b3, b4, b5, br, bg⟩ := id hO
  have b4b := Ok4 hO
  have hloop : ∀ (n i : Nat), (i : Int) ≤ I t 3 → I t 3 - i < n → Zq p l e9 ⟨0, 0, 0, 0⟩ s mt args below meth c G 4 Q 0 0 z K N I R 4 [(0, .ref t), (1, .int (zI (r : Int))), (2, .int (zI (plT (I (t + 2)) r i))), (3, .int (zI (i : Int)))] [] := by
    intro n
    induction n with
    | zero => intro i h1 h2; exact absurd h2 (by omega)
    | succ n ih =>
      intro i h1 h2
      refine z_iload_n C dX4_placeOf_4 rfl ?_
      refine z_aload_n C dX4_placeOf_5 rfl ?_
      refine z_gI C (ci := 4) (k := 3) rfl (by decide) rfl (by decide) wl_4 wq_5_3 rfl dX4_placeOf_6 (by assumption) ?_
      refine z_icmp_ge C (tgt := 56) dX4_placeOf_9 (by decide) (by first | omega | exact b2i_r) (by first | omega | exact b2i_r) (fun h9 => ?_) (fun h9 => ?_)
      · refine z_iload_n C dX4_placeOf_56 rfl ?_
        exact z_iret2 C hQ rfl dX4_placeOf_57 ⟨zr (by rw [show (I t 3).toNat = i by omega]), rfl, rfl, rfl, rfl, rfl⟩
      · have hi1 := vr i (by omega)
        have hr1 := vr r hr
        have hi2 := br i (by omega)
        have hr2 := br r hr
        have hpr := plT_r (I (t + 2)) r i
        refine z_aload_n C dX4_placeOf_12 rfl ?_
        refine z_gR C (ci := 4) (k := 1) rfl (by decide) rfl (by decide) wl_4 wq_2_18 (by decide) dX4_placeOf_13 (by assumption) (by assumption) ?_
        refine z_iload_n C dX4_placeOf_16 rfl ?_
        refine z_ialdk C (i) dX4_placeOf_17 (by assumption) (by first | rfl | omega) (by omega) (by omega) ?_
        refine z_aload_n C dX4_placeOf_18 rfl ?_
        refine z_gR C (ci := 4) (k := 1) rfl (by decide) rfl (by decide) wl_4 wq_2_18 (by decide) dX4_placeOf_19 (by assumption) (by assumption) ?_
        refine z_iload_n C dX4_placeOf_22 rfl ?_
        refine z_ialdk C (r) dX4_placeOf_23 (by assumption) (by first | rfl | omega) (by omega) (by omega) ?_
        refine z_icmp_lt C (tgt := 47) dX4_placeOf_24 (by decide) (by first | omega | exact b2i_r) (by first | omega | exact b2i_r) (fun h24 => ?_) (fun h24 => ?_)
        · refine z_iinc C dX4_placeOf_47 rfl (by decide) rfl ?_
          refine z_conv (lv' := [(0, .ref t), (1, .int (zI (r : Int))), (2, .int (zI (plT (I (t + 2)) r (i + 1)))), (3, .int (zI (i : Int)))]) rfl rfl (congrArg (fun x => [(0, Value.ref t), (1, Value.int (zI (r : Int))), (2, Value.int (zI x)), (3, Value.int (zI (i : Int)))]) (by rw [plT_s]; first | rw [b2i_t (by omega)] | (rw [b2i_f (by omega)]; omega))) rfl ?_
          refine z_iinc C dX4_placeOf_50 rfl (by decide) rfl ?_
          refine z_goto C (tgt := 4) dX4_placeOf_53 (by decide) ?_
          rw [show (i : Int) + 1 = ((i + 1 : Nat) : Int) by omega]
          exact ih (i + 1) (by omega) (by omega)
        · refine z_aload_n C dX4_placeOf_27 rfl ?_
          refine z_gR C (ci := 4) (k := 1) rfl (by decide) rfl (by decide) wl_4 wq_2_18 (by decide) dX4_placeOf_28 (by assumption) (by assumption) ?_
          refine z_iload_n C dX4_placeOf_31 rfl ?_
          refine z_ialdk C (i) dX4_placeOf_32 (by assumption) (by first | rfl | omega) (by omega) (by omega) ?_
          refine z_aload_n C dX4_placeOf_33 rfl ?_
          refine z_gR C (ci := 4) (k := 1) rfl (by decide) rfl (by decide) wl_4 wq_2_18 (by decide) dX4_placeOf_34 (by assumption) (by assumption) ?_
          refine z_iload_n C dX4_placeOf_37 rfl ?_
          refine z_ialdk C (r) dX4_placeOf_38 (by assumption) (by first | rfl | omega) (by omega) (by omega) ?_
          refine z_icmp_ne C (tgt := 50) dX4_placeOf_39 (by decide) (by first | omega | exact b2i_r) (by first | omega | exact b2i_r) (fun h39 => ?_) (fun h39 => ?_)
          · refine z_conv (lv' := [(0, .ref t), (1, .int (zI (r : Int))), (2, .int (zI (plT (I (t + 2)) r (i + 1)))), (3, .int (zI (i : Int)))]) rfl rfl (congrArg (fun x => [(0, Value.ref t), (1, Value.int (zI (r : Int))), (2, Value.int (zI x)), (3, Value.int (zI (i : Int)))]) (by rw [plT_s]; first | rw [b2i_t (by omega)] | (rw [b2i_f (by omega)]; omega))) rfl ?_
            refine z_iinc C dX4_placeOf_50 rfl (by decide) rfl ?_
            refine z_goto C (tgt := 4) dX4_placeOf_53 (by decide) ?_
            rw [show (i : Int) + 1 = ((i + 1 : Nat) : Int) by omega]
            exact ih (i + 1) (by omega) (by omega)
          · refine z_iload_n C dX4_placeOf_42 rfl ?_
            refine z_iload_n C dX4_placeOf_43 rfl ?_
            refine z_icmp_ge C (tgt := 50) dX4_placeOf_44 (by decide) (by first | omega | exact b2i_r) (by first | omega | exact b2i_r) (fun h44 => ?_) (fun h44 => ?_)
            · refine z_conv (lv' := [(0, .ref t), (1, .int (zI (r : Int))), (2, .int (zI (plT (I (t + 2)) r (i + 1)))), (3, .int (zI (i : Int)))]) rfl rfl (congrArg (fun x => [(0, Value.ref t), (1, Value.int (zI (r : Int))), (2, Value.int (zI x)), (3, Value.int (zI (i : Int)))]) (by rw [plT_s]; first | rw [b2i_t (by omega)] | (rw [b2i_f (by omega)]; omega))) rfl ?_
              refine z_iinc C dX4_placeOf_50 rfl (by decide) rfl ?_
              refine z_goto C (tgt := 4) dX4_placeOf_53 (by decide) ?_
              rw [show (i : Int) + 1 = ((i + 1 : Nat) : Int) by omega]
              exact ih (i + 1) (by omega) (by omega)
            · refine z_iinc C dX4_placeOf_47 rfl (by decide) rfl ?_
              refine z_conv (lv' := [(0, .ref t), (1, .int (zI (r : Int))), (2, .int (zI (plT (I (t + 2)) r (i + 1)))), (3, .int (zI (i : Int)))]) rfl rfl (congrArg (fun x => [(0, Value.ref t), (1, Value.int (zI (r : Int))), (2, Value.int (zI x)), (3, Value.int (zI (i : Int)))]) (by rw [plT_s]; first | rw [b2i_t (by omega)] | (rw [b2i_f (by omega)]; omega))) rfl ?_
              refine z_iinc C dX4_placeOf_50 rfl (by decide) rfl ?_
              refine z_goto C (tgt := 4) dX4_placeOf_53 (by decide) ?_
              rw [show (i : Int) + 1 = ((i + 1 : Nat) : Int) by omega]
              exact ih (i + 1) (by omega) (by omega)
  refine z_iconst C dX4_placeOf_0 ?_
  refine z_istore_n C dX4_placeOf_1 (by decide) rfl ?_
  refine z_iconst C dX4_placeOf_2 ?_
  refine z_istore_n C dX4_placeOf_3 (by decide) rfl ?_
  exact hloop 15 0 (by omega) (by omega)

set_option maxHeartbeats 4000000 in
set_option maxRecDepth 100000 in
theorem mX4_countCertificates (l : Launch) (G : GG) {z : Nat} {K N : Nat → Nat} {I : MI} {R : MR} {t : Nat} (hM : ShT G z K N R t) {f : Nat → Int} (hV : TN I t f) (hO : Ok f)  : Cod l G yX4_countCertificates (Cond.code yX4_countCertificates cX4_countCertificates 3 (some .int) :: wsL_law) ⟨0, 0, 0, 0⟩ [.ref t] z K N I R (some (.int (zI (cerN R t (I t 5).toNat)))) I R := by
  refine Con.of (own := RX4) (cc := cX4_countCertificates) (maxL := 3) (ret := (some .int)) (by decide +kernel) rfl rfl (Nat.le_of_ble_eq_true rfl) (by decide) rfl ?_
  intro p e9 s mt args below meth c Q hin hQ C
  obtain ⟨ho, ⟨r0, r1, r2⟩, ⟨k1, k2, k3⟩, ⟨n1, n2, n3⟩, hg⟩ := id hM
  obtain ⟨⟨v0, v1, v2⟩, ⟨v3, v4, v5⟩, vr, vg⟩ := id hV
  obtain ⟨b0, b1, b2, b3, b4, b5, br, bg⟩ := id hO
  have b4b := Ok4 hO
  have hloop : ∀ (n i : Nat), (i : Int) ≤ I t 5 → I t 5 - i < n → Zq p l e9 ⟨0, 0, 0, 0⟩ s mt args below meth c G 3 Q 0 0 z K N I R 4 [(0, .ref t), (1, .int (zI (cerN R t i))), (2, .int (zI (i : Int)))] [] := by
    intro n
    induction n with
    | zero => intro i h1 h2; exact absurd h2 (by omega)
    | succ n ih =>
      intro i h1 h2
      refine z_iload_n C dX4_countCertificates_4 rfl ?_
      refine z_aload_n C dX4_countCertificates_5 rfl ?_
      refine z_gI C (ci := 4) (k := 5) rfl (by decide) rfl (by decide) wl_4 wq_5_5 rfl dX4_countCertificates_6 (by assumption) ?_
      refine z_icmp_ge C (tgt := 33) dX4_countCertificates_9 (by decide) (by first | omega | exact b2i_r) (by first | omega | exact b2i_r) (fun h9 => ?_) (fun h9 => ?_)
      · refine z_iload_n C dX4_countCertificates_33 rfl ?_
        exact z_iret2 C hQ rfl dX4_countCertificates_34 ⟨zr (by rw [show (I t 5).toNat = i by omega]), rfl, rfl, rfl, rfl, rfl⟩
      · refine z_aload_n C dX4_countCertificates_12 rfl ?_
        refine z_gR C (ci := 4) (k := 2) rfl (by decide) rfl (by decide) wl_4 wq_2_20 (by decide) dX4_countCertificates_13 (by assumption) (by assumption) ?_
        refine z_iload_n C dX4_countCertificates_16 rfl ?_
        refine z_aaldk C (i) 10 (by decide) dX4_countCertificates_17 (by assumption) (by first | rfl | omega) (by omega) (by omega) ?_
        have kg9 := (hg i (by omega)).1
        refine z_top (y := .ref (t + 4 + i)) (by rw [(hg i (by omega)).2]; rfl) ?_
        refine z_gO C (ci := 1) (k := 4) rfl (by decide) rfl (by decide) wl_1 wq_5_23 (by decide) dX4_countCertificates_18 (by assumption) ?_
        refine z_ifnull C (tgt := 27) dX4_countCertificates_21 (by decide) (fun h21 => ?_) (fun x21 h21 => ?_)
        · refine z_conv (lv' := [(0, .ref t), (1, .int (zI (cerN R t (i + 1)))), (2, .int (zI (i : Int)))]) rfl rfl (congrArg (fun x => [(0, Value.ref t), (1, Value.int (zI x)), (2, Value.int (zI (i : Int)))]) (by rw [cerN_s]; first | (rw [h21]; show _ = cerN R t i + 0; omega) | (rw [h21]; show _ = cerN R t i + 1; omega))) rfl ?_
          refine z_iinc C dX4_countCertificates_27 rfl (by decide) rfl ?_
          refine z_goto C (tgt := 4) dX4_countCertificates_30 (by decide) ?_
          rw [show (i : Int) + 1 = ((i + 1 : Nat) : Int) by omega]
          exact ih (i + 1) (by omega) (by omega)
        · refine z_iinc C dX4_countCertificates_24 rfl (by decide) rfl ?_
          refine z_conv (lv' := [(0, .ref t), (1, .int (zI (cerN R t (i + 1)))), (2, .int (zI (i : Int)))]) rfl rfl (congrArg (fun x => [(0, Value.ref t), (1, Value.int (zI x)), (2, Value.int (zI (i : Int)))]) (by rw [cerN_s]; first | (rw [h21]; show _ = cerN R t i + 0; omega) | (rw [h21]; show _ = cerN R t i + 1; omega))) rfl ?_
          refine z_iinc C dX4_countCertificates_27 rfl (by decide) rfl ?_
          refine z_goto C (tgt := 4) dX4_countCertificates_30 (by decide) ?_
          rw [show (i : Int) + 1 = ((i + 1 : Nat) : Int) by omega]
          exact ih (i + 1) (by omega) (by omega)
  refine z_iconst C dX4_countCertificates_0 ?_
  refine z_istore_n C dX4_countCertificates_1 (by decide) rfl ?_
  refine z_iconst C dX4_countCertificates_2 ?_
  refine z_istore_n C dX4_countCertificates_3 (by decide) rfl ?_
  exact hloop 7 0 (by omega) (by omega)

set_option maxHeartbeats 4000000 in
set_option maxRecDepth 100000 in
theorem mX4_change (l : Launch) (G : GG) {z : Nat} {K N : Nat → Nat} {I : MI} {R : MR} {t : Nat} (hM : ShT G z K N R t) {f : Nat → Int} (hV : TN I t f) (hO : Ok f) {sg v : Int} (hsg : -2147483648 ≤ sg ∧ sg < 2147483648) (hv : -2147483648 ≤ v ∧ v < 2147483648) : Cod l G yX4_change (Cond.code yX4_change cX4_change 4 (some .int) :: wsL_law) ⟨5, 0, 0, 106⟩ [.ref t, .int (zI sg), .int (zI v)] z K N I R (some (.int (zI (if isVal sg v then I (t + 1) sg.toNat else -2)))) (if isVal sg v then (haI (u2 I (t + 1) sg.toNat v) t (prsA (setsV f sg.toNat v) (setsV f sg.toNat v 4)) (setsV f sg.toNat v 5).toNat) else I) (if isVal sg v ∧ sg = 1 then voR R t (f 5).toNat else R) := by
  refine Con.of (own := RX4) (cc := cX4_change) (maxL := 4) (ret := (some .int)) (by decide +kernel) rfl rfl (Nat.le_of_ble_eq_true rfl) (by decide) rfl ?_
  intro p e9 s mt args below meth c Q hin hQ C
  obtain ⟨ho, ⟨r0, r1, r2⟩, ⟨k1, k2, k3⟩, ⟨n1, n2, n3⟩, hg⟩ := id hM
  obtain ⟨⟨v0, v1, v2⟩, ⟨v3, v4, v5⟩, vr, vg⟩ := id hV
  obtain ⟨b0, b1, b2, b3, b4, b5, br, bg⟩ := id hO
  have b4b := Ok4 hO
  have hz1 : (0 ≤ sg ∧ sg < 3) → zF1 sg.toNat = (if sg = 1 then 1 else 0) := fun z => by
    unfold zF1
    (repeat' split) <;> omega
  have hz2 : (0 ≤ sg ∧ sg < 3) → zF2 sg.toNat = (if sg = 0 then 9 else if sg = 1 then 99 else 999) := fun z => by
    unfold zF2
    (repeat' split) <;> omega
  refine z_iload_n C dX4_change_0 rfl ?_
  refine z_if_lt C (tgt := 31) dX4_change_1 (by decide) (by first | omega | exact b2i_r) (fun h1 => ?_) (fun h1 => ?_)
  · have hno : ¬ isVal sg v := by
      intro z
      rcases z with z | z | z <;> first | omega | (rw [hz1 (by omega)] at h19; split at h19 <;> omega) | (rw [hz2 (by omega)] at h28; (repeat' split at h28) <;> omega)
    refine z_bipush C dX4_change_31 (by decide) ?_
    exact z_iret2 C hQ rfl dX4_change_33 ⟨zr (by first | rw [if_neg hno] | rw [if_pos hyes]), rfl, rfl, rfl, by first | rw [if_neg hno] | rw [if_pos hyes], by first | rw [if_neg (fun z => hno z.1)] | (rw [if_neg (fun z => h50 z.2)]; done) | (rw [if_pos ⟨hyes, h50⟩, show st1 f n9 v 5 = f 5 from st1_n (by omega)])⟩
  · refine z_iload_n C dX4_change_4 rfl ?_
    refine z_aload_n C dX4_change_5 rfl ?_
    refine z_gR C (ci := 4) (k := 0) rfl (by decide) rfl (by decide) wl_4 wq_2_16 (by decide) dX4_change_6 (by assumption) (by assumption) ?_
    refine z_alen C dX4_change_9 (by assumption) ?_
    refine z_icmp_ge C (tgt := 31) dX4_change_10 (by decide) (by first | omega | exact b2i_r) (by first | omega | exact b2i_r) (fun h10 => ?_) (fun h10 => ?_)
    · have hno : ¬ isVal sg v := by
        intro z
        rcases z with z | z | z <;> first | omega | (rw [hz1 (by omega)] at h19; split at h19 <;> omega) | (rw [hz2 (by omega)] at h28; (repeat' split at h28) <;> omega)
      refine z_bipush C dX4_change_31 (by decide) ?_
      exact z_iret2 C hQ rfl dX4_change_33 ⟨zr (by first | rw [if_neg hno] | rw [if_pos hyes]), rfl, rfl, rfl, by first | rw [if_neg hno] | rw [if_pos hyes], by first | rw [if_neg (fun z => hno z.1)] | (rw [if_neg (fun z => h50 z.2)]; done) | (rw [if_pos ⟨hyes, h50⟩, show st1 f n9 v 5 = f 5 from st1_n (by omega)])⟩
    · have y1 := hz1 (by omega)
      have y2 := hz2 (by omega)
      have y3 : 0 ≤ zF1 sg.toNat ∧ zF1 sg.toNat ≤ 1 := by rw [y1]; split <;> omega
      have y4 : 9 ≤ zF2 sg.toNat ∧ zF2 sg.toNat ≤ 999 := by rw [y2]; (repeat' split) <;> omega
      refine z_iload_n C dX4_change_13 rfl ?_
      refine z_gets0 C (f := zF1) C.2.2.2.2.2.2.2.1.2.1.2.1 (Or.inr (va_tabs rfl rfl (C.2.2.2.2.2.2.2.1.2.2.1 _ (List.mem_of_getElem? (i := 1) rfl)))) dX4_change_14 (fun tq14 hq14 => ?_)
      refine z_iload_n C dX4_change_17 rfl ?_
      refine z_sald C hq14 dX4_change_18 (by omega) ?_
      refine z_icmp_lt C (tgt := 31) dX4_change_19 (by decide) (by first | omega | exact b2i_r) (by first | omega | exact b2i_r) (fun h19 => ?_) (fun h19 => ?_)
      · have hno : ¬ isVal sg v := by
          intro z
          rcases z with z | z | z <;> first | omega | (rw [hz1 (by omega)] at h19; split at h19 <;> omega) | (rw [hz2 (by omega)] at h28; (repeat' split at h28) <;> omega)
        refine z_bipush C dX4_change_31 (by decide) ?_
        exact z_iret2 C hQ rfl dX4_change_33 ⟨zr (by first | rw [if_neg hno] | rw [if_pos hyes]), rfl, rfl, rfl, by first | rw [if_neg hno] | rw [if_pos hyes], by first | rw [if_neg (fun z => hno z.1)] | (rw [if_neg (fun z => h50 z.2)]; done) | (rw [if_pos ⟨hyes, h50⟩, show st1 f n9 v 5 = f 5 from st1_n (by omega)])⟩
      · refine z_iload_n C dX4_change_22 rfl ?_
        refine z_gets0 C (f := zF2) C.2.2.2.2.2.2.2.1.2.1.2.2 (Or.inr (va_tabs rfl rfl (C.2.2.2.2.2.2.2.1.2.2.1 _ (List.mem_of_getElem? (i := 2) rfl)))) dX4_change_23 (fun tq23 hq23 => ?_)
        refine z_iload_n C dX4_change_26 rfl ?_
        refine z_sald C hq23 dX4_change_27 (by omega) ?_
        refine z_icmp_le C (tgt := 34) dX4_change_28 (by decide) (by first | omega | exact b2i_r) (by first | omega | exact b2i_r) (fun h28 => ?_) (fun h28 => ?_)
        · have hyes : isVal sg v := by
            rw [y1] at h19
            rw [y2] at h28
            (repeat' split at h19) <;> (repeat' split at h28) <;> omega
          obtain ⟨n9, rfl⟩ := Int.eq_ofNat_of_zero_le (show 0 ≤ sg by omega)
          simp only [Int.toNat_natCast] at hQ
          have hsV := hO.h_setsV (s := n9) hyes
          have hTV := hV.e_setsV b3.2 (s := n9) (by omega) v
          refine z_aload_n C dX4_change_34 rfl ?_
          refine z_gR C (ci := 4) (k := 0) rfl (by decide) rfl (by decide) wl_4 wq_2_16 (by decide) dX4_change_35 (by assumption) (by assumption) ?_
          refine z_iload_n C dX4_change_38 rfl ?_
          refine z_ialdk C (n9) dX4_change_39 (by assumption) (by first | rfl | omega) (by omega) (by omega) ?_
          refine z_istore_n C dX4_change_40 (by decide) rfl ?_
          refine z_aload_n C dX4_change_41 rfl ?_
          refine z_gR C (ci := 4) (k := 0) rfl (by decide) rfl (by decide) wl_4 wq_2_16 (by decide) dX4_change_42 (by assumption) (by assumption) ?_
          refine z_iload_n C dX4_change_45 rfl ?_
          refine z_iload_n C dX4_change_46 rfl ?_
          refine z_iastk C (n9) dX4_change_47 (by assumption) (by first | rfl | omega) (by omega) (by omega) ?_
          refine z_iload_n C dX4_change_48 rfl ?_
          refine z_iconst C dX4_change_49 ?_
          refine z_icmp_ne C (tgt := 57) dX4_change_50 (by decide) (by first | omega | exact b2i_r) (by first | omega | exact b2i_r) (fun h50 => ?_) (fun h50 => ?_)
          · refine z_aload_n C dX4_change_57 rfl ?_
            refine z_callVd C (ci := 4) rfl (by decide) (by first | assumption | exact hM.1) (mX4_moveHands l G (by first | exact hM | exact hM.vo _) hTV hsV) (cwV 0 C.2.2.2.2.1 gv4_62 rfl rfl rfl hd_X4_moveHands ⟨Nat.le_of_ble_eq_true rfl, Nat.le_of_ble_eq_true rfl⟩) rfl rfl (Nat.le_of_ble_eq_true rfl) dX4_change_58 ⟨Nat.zero_le _, Nat.zero_le _⟩ ?_
            refine z_pop C dX4_change_61 rfl ?_
            refine z_iload_n C dX4_change_62 rfl ?_
            exact z_iret2 C hQ rfl dX4_change_63 ⟨zr (by first | rw [if_neg hno] | rw [if_pos hyes]), rfl, rfl, rfl, by first | rw [if_neg hno] | rw [if_pos hyes], by first | rw [if_neg (fun z => hno z.1)] | (rw [if_neg (fun z => h50 z.2)]; done) | (rw [if_pos ⟨hyes, h50⟩, show st1 f n9 v 5 = f 5 from st1_n (by omega)])⟩
          · refine z_aload_n C dX4_change_53 rfl ?_
            refine z_callVd C (ci := 4) rfl (by decide) (by first | assumption | exact hM.1) (mX4_voidCertificates l G hM (hV.set b3.2 (s := n9) (by omega) v) (hO.set hyes)) (cwV 0 C.2.2.2.2.1 gv4_59 rfl rfl rfl hd_X4_voidCertificates ⟨Nat.le_of_ble_eq_true rfl, Nat.le_of_ble_eq_true rfl⟩) rfl rfl (Nat.le_of_ble_eq_true rfl) dX4_change_54 ⟨Nat.zero_le _, Nat.zero_le _⟩ ?_
            refine z_aload_n C dX4_change_57 rfl ?_
            refine z_callVd C (ci := 4) rfl (by decide) (by first | assumption | exact hM.1) (mX4_moveHands l G (by first | exact hM | exact hM.vo _) hTV hsV) (cwV 0 C.2.2.2.2.1 gv4_62 rfl rfl rfl hd_X4_moveHands ⟨Nat.le_of_ble_eq_true rfl, Nat.le_of_ble_eq_true rfl⟩) rfl rfl (Nat.le_of_ble_eq_true rfl) dX4_change_58 ⟨Nat.zero_le _, Nat.zero_le _⟩ ?_
            refine z_pop C dX4_change_61 rfl ?_
            refine z_iload_n C dX4_change_62 rfl ?_
            exact z_iret2 C hQ rfl dX4_change_63 ⟨zr (by first | rw [if_neg hno] | rw [if_pos hyes]), rfl, rfl, rfl, by first | rw [if_neg hno] | rw [if_pos hyes], by first | rw [if_neg (fun z => hno z.1)] | (rw [if_neg (fun z => h50 z.2)]; done) | (rw [if_pos ⟨hyes, h50⟩, show st1 f n9 v 5 = f 5 from st1_n (by omega)])⟩
        · have hno : ¬ isVal sg v := by
            intro z
            rcases z with z | z | z <;> first | omega | (rw [hz1 (by omega)] at h19; split at h19 <;> omega) | (rw [hz2 (by omega)] at h28; (repeat' split at h28) <;> omega)
          refine z_bipush C dX4_change_31 (by decide) ?_
          exact z_iret2 C hQ rfl dX4_change_33 ⟨zr (by first | rw [if_neg hno] | rw [if_pos hyes]), rfl, rfl, rfl, by first | rw [if_neg hno] | rw [if_pos hyes], by first | rw [if_neg (fun z => hno z.1)] | (rw [if_neg (fun z => h50 z.2)]; done) | (rw [if_pos ⟨hyes, h50⟩, show st1 f n9 v 5 = f 5 from st1_n (by omega)])⟩

