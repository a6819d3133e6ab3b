theorem FrM.trans {x z z2 z3 : Nat} {K N K2 N2 K3 N3 : Nat → Nat} {I I2 I3 : MI} {R R2 R3 : MR} (a : FrM x z K N I R z2 K2 N2 I2 R2) (b : FrM x z2 K2 N2 I2 R2 z3 K3 N3 I3 R3) : FrM x z K N I R z3 K3 N3 I3 R3 := by
  obtain ⟨a1, a2, a3⟩ := a
  obtain ⟨b1, b2, b3⟩ := b
  exact ⟨Nat.le_trans a1 b1, fun w hw => ⟨(b2 w (by omega)).1.trans (a2 w hw).1, (b2 w (by omega)).2.trans (a2 w hw).2⟩, fun w h1 h2 => ⟨(b3 w h1 h2).1.trans (a3 w h1 h2).1, (b3 w h1 h2).2.trans (a3 w h1 h2).2⟩⟩
theorem TQ.pm {G : GG} {x z : Nat} {K N : Nat → Nat} {I : MI} {R : MR} {t : Nat} {f : Nat → Int} (h : TQ G (x + 100) z K N I R t f) (nu g : Nat → Int) (ht : t + 10 ≤ x + 83) : TQ G (x + 100) z K N (PM I (x + 89) nu g) R t f :=
  h.keep (CK.lo (Nat.le_refl z) (fun _ _ => ⟨rfl, rfl⟩) fun a h1 h2 => ⟨PM_n _ _ _ _ _ (by omega) (by omega), rfl⟩) fun a h1 h2 => ⟨PM_n _ _ _ _ _ (by omega) (by omega), rfl⟩
theorem li_dec {d q : Nat} (h1 : 80 - d < q + 1) (h2 : d + 1 ≤ 80) : 80 - (d + 1) < q := by omega
theorem coL_e (o : Nat) {J : MI} (h : ¬ J o 11 < J o 6) : ∀ (q d : Nat), coL o q J d = (d, J)
  | 0, _ => rfl
  | q + 1, d => by rw [coL_s, if_neg h]
theorem ro_n {P f g : Nat → Int} (h : Sm f g) (hr : ¬ roB P f = 0) : roF P f 12 = roF P g 12 ∧ roF P f 13 = roF P g 13 ∧ (roF P f 12 = 103 → roF P f 14 = roF P g 14 ∧ roF P f 15 = roF P g 15) := by
  have hr2 : ¬ roB P g = 0 := by rw [← h.e_roB]; exact hr
  have e12 : roF P f 12 = roF P g 12 := by rw [(ro_a hr).1, (ro_a hr2).1, h.ch]
  refine ⟨e12, ?_⟩
  rw [(ro_a hr).1]
  have hc := h.ch (P := P)
  have r2 := h.r2 (P := P)
  unfold roB at hr
  unfold roF
  rw [← hc]
  by_cases c1 : isNo (chF P f (f 11))
  · rw [if_pos c1, if_pos c1]
    exact ⟨by rw [st1_s, st1_s, r2.e_tnV], fun z => by omega⟩
  · rw [if_neg c1] at hr
    rw [if_neg c1, if_neg c1]
    by_cases c2 : chF P f (f 11) = 97
    · rw [if_pos c2, if_pos c2]
      exact ⟨by rw [st1_s, st1_s, r2.e_tdV], fun z => by omega⟩
    · rw [if_neg c2] at hr
      rw [if_neg c2, if_neg c2]
      by_cases c3 : chF P f (f 11) = 103
      · rw [if_pos c3, if_pos c3]
        exact ⟨by rw [rg3_13, rg3_13, rg1_13, rg1_13, r2.e_nxB, r2.e_rgv], fun _ => ⟨by rw [rg3_14, rg3_14, r2.rg14], r2.rg15⟩⟩
      · rw [if_neg c3] at hr
        exact absurd rfl hr
theorem oA_c {f : Nat → Int} {w n0 n1 n2 m1 m2 : Int} (h : w = 103 → n1 = m1 ∧ n2 = m2) : oA f w n0 n1 n2 = oA f w n0 m1 m2 ∧ oF f w n0 n1 n2 = oF f w n0 m1 m2 := by
  by_cases e : w = 103
  · rw [(h e).1, (h e).2]; exact ⟨rfl, rfl⟩
  · unfold oA oF
    rw [if_neg e, if_neg e, if_neg e, if_neg e]
    exact ⟨rfl, rfl⟩
theorem oA_wn {f : Nat → Int} (hO : Ok f) {w n0 n1 n2 : Int} (hw : w = 43 ∨ w = 45 ∨ w = 97 ∨ w = 103 ∨ w = 109 ∨ w = 116) (h9 : w = 97 → 0 ≤ n0 ∧ n0 ≤ 9) : AOk (oA f w n0 n1 n2) (wnP f w n0 n1 n2 = 0) f (oF f w n0 n1 n2) := by
  have key : ∀ {a : Int} {c : Prop} {f' : Nat → Int}, AOk a c f f' → (c ↔ wnP f w n0 n1 n2 = 0) → AOk a (wnP f w n0 n1 n2 = 0) f f' := fun h e => ⟨h.1, h.2.1.trans e, fun z => h.2.2 fun y => z (e.mp y)⟩
  rcases hw with e | e | e | e | e | e
  · subst e
    refine key (aMov_ok hO 0 n0) ?_
    rw [wnP_43]
    (repeat' split) <;> omega
  · subst e
    refine key (aMov_ok hO 1 n0) ?_
    rw [wnP_45]
    (repeat' split) <;> omega
  · subst e
    refine key (aSet_ok hO 0 n0) ?_
    rw [wnP_x _ _ _ _ (by omega)]
    have := h9 rfl
    exact ⟨fun _ => rfl, fun _ => Or.inl ⟨rfl, this.1, this.2⟩⟩
  · subst e
    refine key (aGau_ok hO n0 n1 n2) ?_
    rw [wnP_103]
    (repeat' split) <;> omega
  · subst e
    refine key (aRin_ok hO n0) ?_
    rw [wnP_109]
    (repeat' split) <;> omega
  · subst e
    refine key (ceV_ok hO n0) ?_
    rw [wnP_116]
    (repeat' split) <;> omega
theorem oF_do {J : MI} {o : Nat} {f : Nat → Int} (hf : J (o + 1) = f) (hO : Ok f) {w n0 n1 n2 : Int} (hw : w = 43 ∨ w = 45 ∨ w = 97 ∨ w = 103 ∨ w = 109 ∨ w = 116) (h9 : w = 97 → 0 ≤ n0 ∧ n0 ≤ 9) (h0 : wnP f w n0 n1 n2 = 0) : doP J o w n0 n1 n2 (o + 1) = oF f w n0 n1 n2 := by
  rcases hw with e | e | e | e | e | e
  · subst e
    rw [wnP_43] at h0
    rw [doP_mv _ _ _ _ _ (Or.inl rfl), va_up_s, hf]
    show _ = fMov 0 f n0
    exact (if_pos (by (repeat' split at h0) <;> first | exact ⟨by assumption, by assumption⟩ | omega)).symm
  · subst e
    rw [wnP_45] at h0
    rw [doP_mv _ _ _ _ _ (Or.inr rfl), va_up_s, hf]
    show _ = fMov 1 f n0
    exact (if_pos (by (repeat' split at h0) <;> first | exact ⟨by assumption, by assumption⟩ | omega)).symm
  · subst e
    rw [doP_x _ _ _ _ _ (by omega), va_up_s, hf]
    have := h9 rfl
    show _ = fSet f 0 n0
    exact (if_pos (show isVal 0 n0 from Or.inl ⟨rfl, this.1, this.2⟩)).symm
  · subst e
    rw [wnP_103] at h0
    rw [doP_103, va_up_s, hf]
    show _ = fGau f n0 n1 n2
    exact (if_pos (by (repeat' split at h0) <;> first | exact ⟨by assumption, by assumption⟩ | omega)).symm
  · subst e
    rw [wnP_109] at h0
    rw [doP_109, va_up_s, hf]
    show _ = fRin f n0
    exact (if_pos (by (repeat' split at h0) <;> first | exact ⟨by assumption, by assumption⟩ | omega)).symm
  · subst e
    rw [wnP_116] at h0
    rw [doP_116, va_up_s, hf]
    show _ = fCer f n0
    exact (if_pos (by (repeat' split at h0) <;> first | exact ⟨by assumption, by assumption⟩ | omega)).symm
/-- where the class and the model stand between two orders -/
def LQ (P g : Nat → Int) (o : Nat) (J : MI) (d : Nat) : Prop :=
  TOk P (md g) ∧ Sm (md (seG P g)) (J o) ∧ (d : Int) ≤ g 4 ∧ (0 < g 4 → nxB P (md g) 59 = 0 → g 4 = g 2) ∧ J (o + 5) = P ∧ TOk P (J o) ∧ FOk (J o) ∧ Ok (J (o + 1)) ∧ (J o 11 = J o 6 ∨ ∃ q2 : Nat, (ffL P q2 (J o)).1 = -6)
theorem LQ.nob {P g : Nat → Int} {o : Nat} {J : MI} {d : Nat} (h : LQ P g o J d) : (noB P g = 0 → ¬ J o 11 < J o 6) ∧ (¬ noB P g = 0 → J o 11 < J o 6 ∧ noG P g = orG P (seG P g) ∧ (∀ nu : Nat → Int, noN P nu g = orN P nu (seG P g)) ∧ ¬ orB P (seG P g) = 0 ∧ ¬ roB P (J o) = 0) := by
  obtain ⟨h1, h2, h3, h4, h5, h6, h7, h8, h9⟩ := h
  have t11 := h1.2.2
  rw [md_6, md_11] at t11
  have s6 : seG P g 2 = J o 6 := h2.1
  have s11 : seG P g 4 = J o 11 := h2.2
  have sg2 := se_2 P g
  have h01 := nx_01 P (md g) 59
  have sg4 : seG P g 4 = if 0 < g 4 then g 4 + nxB P (md g) 59 else g 4 := by
    unfold seG
    split
    · exact st1_s _ _ _
    · rfl
  have s40 : 0 ≤ seG P g 4 := by rw [sg4]; split <;> omega
  obtain ⟨o1, o2, -⟩ := or_eq P (fun _ => 0) (seG P g) s40
  have oj : orB P (seG P g) = roB P (J o) := o1.trans h2.e_roB
  by_cases hc : 0 < g 4 ∧ nxB P (md g) 59 = 0
  · have e : noB P g = 0 := if_pos hc
    refine ⟨fun _ => ?_, fun z => absurd e z⟩
    have := h4 hc.1 hc.2
    rw [if_pos hc.1, hc.2] at sg4
    omega
  · have e : noB P g = orB P (seG P g) := if_neg hc
    rw [e]
    refine ⟨fun z lt => ?_, fun z => ?_⟩
    · rcases h9 with w | ⟨q2, w⟩
      · omega
      · cases q2 with
        | zero => exact absurd w (by show ¬ (0 : Int) = -6; omega)
        | succ q2 =>
          rw [ffL_K, if_pos (by rw [← oj]; exact z)] at w
          have := h6.ro.2.2
          omega
    · have hr : ¬ roB P (J o) = 0 := by rw [← oj]; exact z
      have := ro_gt hr
      have t := h6.ro.2.2
      have t6 := (Fwd.ro P (J o)).1
      exact ⟨by omega, if_neg hc, fun nu => if_neg hc, z, hr⟩
set_option maxHeartbeats 4000000 in
set_option maxRecDepth 100000 in
theorem mX6_carryOut (l : Launch) (G : GG) {z : Nat} {K N : Nat → Nat} {I : MI} {R : MR} {x : Nat} {f h s0 v0 P : Nat → Int} {n len : Int} (hC : CI G x z K N I R f h s0 v0 P n len) (hx : x + 100 ≤ z) {M : MI} {o : Nat} (m1 : M (o + 1) = f) (m5 : M (o + 5) = P) (m6 : M o 6 = len) (mF : FOk (M o)) : Con l G yX6_carryOut (Cond.code yX6_carryOut cX6_carryOut 2 (some .int) :: wsL_law) ⟨7, 160, 2480, 150⟩ 160 2480 [.ref x] z K N I R (fun r z' K' N' I' R' => r = some (.int (zI (if ffV P (M o) = -6 then ((coL o 82 (coJ M o) 0).1 : Int) else -3))) ∧ FrM x z K N I R z' K' N' I' R' ∧ (ffV P (M o) = -6 → CI G x z' K' N' I' R' ((coL o 82 (coJ M o) 0).2 (o + 1)) (recH f h n) s0 v0 P (recN n + 1) 0) ∧ (¬ ffV P (M o) = -6 → CI G x z' K' N' I' R' f h s0 v0 P n len)) := by
  refine Con.of (own := RX6) (cc := cX6_carryOut) (maxL := 2) (ret := (some .int)) (by decide +kernel) rfl rfl (Nat.le_of_ble_eq_true rfl) (by decide) rfl ?_
  intro p e9 s mt args below meth c Q hin hQ C
  obtain ⟨⟨cx, cr0, cr1, cr2, cr3, cr4⟩, ⟨cH, ⟨cS, cN⟩, cX, cP⟩, cT, ⟨cp, cn, cm, cJ⟩, cSl, cPd⟩ := id hC
  have kn := cT.1.1
  have kh := cH.1
  have kp := cP.1
  have hPk : POk (I (x + 89 + 2)) (I (x + 89) 2) := by rw [cPd.2.1]; exact cPd.1
  obtain ⟨q, hq⟩ := Int.eq_ofNat_of_zero_le cp.1
  have hq7 : q < 7 := by omega
  have f6 : ffV P (fun _ => len) = ffV P (M o) := ffV_6 m6.symm
  have pk9 : POk P (M o 6) := by rw [m6, ← cPd.2.2]; exact cPd.1
  obtain ⟨a1, a2, a3⟩ := ffV_ok2 pk9 mF
  have hend : ffV P (M o) = -6 → ∀ (q : Nat), q < 7 → ∀ (d z2 : Nat) (K2 N2 : Nat → Nat) (I2 : MI) (R2 : MR) (J : MI), d ≤ 80 → CI G x z2 K2 N2 I2 R2 (J (o + 1)) h s0 v0 P n len → TQ G (x + 100) z2 K2 N2 I2 R2 (x + 13 + 10 * q) f → FrM x z K N I R z2 K2 N2 I2 R2 → I2 (x + 11) 1 = (q : Int) → (d, J) = coL o 82 (coJ M o) 0 → Zq p l e9 ⟨7, 160, 2480, 150⟩ s mt args below meth c G 2 Q 160 2480 z2 K2 N2 I2 R2 64 [(0, .ref x), (1, .int (zI (d : Int)))] [] := by
    intro hff q hq7 d z2 K2 N2 I2 R2 J hd dC dU dM dq he
    obtain ⟨⟨ex, er0, er1, er2, er3, er4⟩, ⟨eH, ⟨eS, eN⟩, eX, eP⟩, eT, ⟨ep, en, em, eJ⟩, eSl, ePd⟩ := id dC
    have hPk2 : POk (I2 (x + 89 + 2)) (I2 (x + 89) 2) := by rw [ePd.2.1]; exact ePd.1
    have kp2 := eP.1
    have kh2 := eH.1
    refine z_aload_n C dX6_carryOut_64 rfl ?_
    refine z_gR C (ci := 6) (k := 4) rfl (by decide) rfl (by decide) wl_6 wq_2_5 (by decide) dX6_carryOut_65 (by assumption) (by assumption) ?_
    refine z_mem (PM_s I2 (x + 89)).symm rfl ?_
    refine z_callVd C (ci := 3) rfl (by decide) (by assumption) (nX3_clear l G eP hPk2) (cwV 0 C.2.2.2.2.1 gv6_174 rfl rfl rfl hd_X3_clear ⟨Nat.le_of_ble_eq_true rfl, Nat.le_of_ble_eq_true rfl⟩) rfl rfl (Nat.le_of_ble_eq_true rfl) dX6_carryOut_68 ⟨(Nat.le_of_ble_eq_true rfl), (Nat.le_of_ble_eq_true rfl)⟩ ?_
    refine z_gen (fun I' R' => (CPn G x z2 K2 N2 I2 R2 (J (o + 1)) h s0 v0 P n 0 z2 K2 N2 I' R' ∧ TQ G (x + 100) z2 K2 N2 I' R' (x + 13 + 10 * q) f) ∧ I' (x + 11) 1 = (q : Int)) ⟨⟨dC.padc (fun a ha => PM_n _ _ _ _ _ (by omega) (by omega)) ⟨⟨by omega, by rw [PM_n _ _ _ _ _ (by omega) (by omega)]; exact ePd.1.2⟩, by rw [PM_b, st1_s], by rw [PM_n _ _ _ _ _ (by omega) (by omega)]; exact ePd.2.2⟩, dU.pm _ _ (by omega)⟩, by rw [PM_n _ _ _ _ _ (by omega) (by omega)]; exact dq⟩ ?_
    intro I3 R3 ⟨⟨⟨gM, gC⟩, gU⟩, gq⟩
    have gr1 := gC.1.2.2.1
    have gkh := gC.2.1.1.1
    refine z_pop C dX6_carryOut_71 rfl ?_
    refine z_aload_n C dX6_carryOut_72 rfl ?_
    refine z_gR C (ci := 6) (k := 1) rfl (by decide) rfl (by decide) wl_6 wq_1_20 (by decide) dX6_carryOut_73 (by assumption) (by assumption) ?_
    refine z_iload_n C dX6_carryOut_76 rfl ?_
    refine z_callVd C (ci := 2) rfl (by decide) (by assumption) (mX2_settle l G gC.2.1.1 (by omega) gC.2.2.2.1.1 (by rw [gC.2.2.2.1.2.1]; exact em)) (cwV 1 C.2.2.2.2.1 gv6_49 rfl rfl rfl hd_X2_settle ⟨Nat.le_of_ble_eq_true rfl, Nat.le_of_ble_eq_true rfl⟩) rfl rfl (Nat.le_of_ble_eq_true rfl) dX6_carryOut_77 ⟨(Nat.le_of_ble_eq_true rfl), (Nat.le_of_ble_eq_true rfl)⟩ ?_
    exact z_iret2 C hQ rfl dX6_carryOut_80 ⟨zr (by rw [if_pos hff]; exact congrArg (fun y : Nat × MI => ((y.1 : Nat) : Int)) he), by
      have w := CPc_fin (a := (d : Int)) gC gq gU (dM.trans gM) (fun z9 => absurd (by omega) z9)
      refine ⟨w.1, fun _ => ?_, fun z9 => absurd hff z9⟩
      rw [← he]
      exact w.2.1 (by omega)⟩
  have hloop : ffV P (M o) = -6 → ∀ (q : Nat), q < 7 → ∀ (q9 : Nat) (d z2 : Nat) (K2 N2 : Nat → Nat) (I2 : MI) (R2 : MR) (J : MI), d ≤ 80 → 80 - d < q9 → CI G x z2 K2 N2 I2 R2 (J (o + 1)) h s0 v0 P n len → TQ G (x + 100) z2 K2 N2 I2 R2 (x + 13 + 10 * q) f → FrM x z K N I R z2 K2 N2 I2 R2 → I2 (x + 11) 1 = (q : Int) → LQ P (I2 (x + 89)) o J d → coL o (82 - d) J d = coL o 82 (coJ M o) 0 → Zq p l e9 ⟨7, 160, 2480, 150⟩ s mt args below meth c G 2 Q (2 * d) (31 * d) z2 K2 N2 I2 R2 35 [(0, .ref x), (1, .int (zI (d : Int)))] [] := by
    intro hff q hq7 q9
    induction q9 with
    | zero => intro d z2 K2 N2 I2 R2 J hd hq; exact absurd hq (by omega)
    | succ q9 ih =>
      intro d z2 K2 N2 I2 R2 J hd hqd dC dU dM dq hL he
      obtain ⟨⟨ex, er0, er1, er2, er3, er4⟩, ⟨eH, ⟨eS, eN⟩, eX, eP⟩, eT, ⟨ep, en, em, eJ⟩, eSl, ePd⟩ := id dC
      obtain ⟨L1, L2, L3, L4, L5, L6, L7, L8, L9⟩ := id hL
      obtain ⟨nb0, nb1⟩ := hL.nob
      have n01 := noB_01 P (I2 (x + 89))
      have kp2 := eP.1
      have hPe : I2 (x + 89 + 2) = P := ePd.2.2
      have e2l : I2 (x + 89) 2 = len := ePd.2.1
      have hlen := ePd.1.1
      have t11 := L1.2.2
      rw [md_6, md_11] at t11
      have hxz : x + 100 ≤ z2 := by have := dM.1; omega
      refine z_iload_n C dX6_carryOut_35 rfl ?_
      refine z_bipush C dX6_carryOut_36 (by decide) ?_
      refine z_icmp_ge C (tgt := 64) dX6_carryOut_38 (by decide) (by first | omega | exact b2i_r) (by first | omega | exact b2i_r) (fun h38 => ?_) (fun h38 => ?_)
      · first
        | (have hneg : ¬ 0 ≤ oA (J (o + 1)) (cR J o o 12) (cR J o o 13) (cR J o o 14) (cR J o o 15) := by omega
           have hw0 : ¬ wnP (J (o + 1)) (cR J o o 12) (cR J o o 13) (cR J o o 14) (cR J o o 15) = 0 := fun y => hneg (aok.2.1.mpr y)
           rw [hwn, if_neg hw0] at he2
           rw [aok.2.2 hw0, ← d2] at oC
           refine z_widen (k := 160) (n := 2480) (by omega) (by omega) ?_
           exact hend hff q hq7 d _ _ _ _ _ (cR J o) hd oC oU oM oq he2)
        | (have hst := coL_e o (nb0 h48) (82 - d) d
           rw [hst] at he
           obtain ⟨pM, pC⟩ := dC.pm (nu := noN P (I2 (x + 89 + 1)) (I2 (x + 89))) (g := noG P (I2 (x + 89))) (by rw [no_2]; exact e2l)
           refine z_widen (k := 160) (n := 2480) (by omega) (by omega) ?_
           exact hend hff q hq7 d _ _ _ _ _ J hd pC (dU.pm _ _ (by omega)) (dM.trans pM) (by rw [PM_n _ _ _ _ _ (by omega) (by omega)]; exact dq) he)
        | (have h80 : ¬ J o 11 < J o 6 := by
             have s6 : seG P (I2 (x + 89)) 2 = J o 6 := L2.1
             have s11 : seG P (I2 (x + 89)) 4 = J o 11 := L2.2
             have sg2 := se_2 P (I2 (x + 89))
             have sg4 : I2 (x + 89) 4 ≤ seG P (I2 (x + 89)) 4 := by
               unfold seG
               have := nx_01 P (md (I2 (x + 89))) 59
               split
               · rw [st1_s]; omega
               · omega
             omega
           have hst := coL_e o h80 (82 - d) d
           rw [hst] at he
           refine z_widen (k := 160) (n := 2480) (by omega) (by omega) ?_
           exact hend hff q hq7 d _ _ _ _ _ J hd dC dU dM dq he)
      · refine z_aload_n C dX6_carryOut_41 rfl ?_
        refine z_gR C (ci := 6) (k := 4) rfl (by decide) rfl (by decide) wl_6 wq_2_5 (by decide) dX6_carryOut_42 (by assumption) (by assumption) ?_
        refine z_mem (PM_s I2 (x + 89)).symm rfl ?_
        refine z_callVd C (ci := 3) rfl (by decide) (by assumption) (mX3_nextOrder l G eP (by rw [hPe]; exact L1)) (cwV 0 C.2.2.2.2.1 gv6_183 rfl rfl rfl hd_X3_nextOrder ⟨Nat.le_of_ble_eq_true rfl, Nat.le_of_ble_eq_true rfl⟩) rfl rfl (Nat.le_of_ble_eq_true rfl) dX6_carryOut_45 ⟨by show 2 * d ≤ 160; omega, by show 31 * d ≤ 2480; omega⟩ ?_
        rw [hPe]
        refine z_if_eq C (tgt := 64) dX6_carryOut_48 (by decide) (by first | omega | exact b2i_r) (fun h48 => ?_) (fun h48 => ?_)
        · first
          | (have hneg : ¬ 0 ≤ oA (J (o + 1)) (cR J o o 12) (cR J o o 13) (cR J o o 14) (cR J o o 15) := by omega
             have hw0 : ¬ wnP (J (o + 1)) (cR J o o 12) (cR J o o 13) (cR J o o 14) (cR J o o 15) = 0 := fun y => hneg (aok.2.1.mpr y)
             rw [hwn, if_neg hw0] at he2
             rw [aok.2.2 hw0, ← d2] at oC
             refine z_widen (k := 160) (n := 2480) (by omega) (by omega) ?_
             exact hend hff q hq7 d _ _ _ _ _ (cR J o) hd oC oU oM oq he2)
          | (have hst := coL_e o (nb0 h48) (82 - d) d
             rw [hst] at he
             obtain ⟨pM, pC⟩ := dC.pm (nu := noN P (I2 (x + 89 + 1)) (I2 (x + 89))) (g := noG P (I2 (x + 89))) (by rw [no_2]; exact e2l)
             refine z_widen (k := 160) (n := 2480) (by omega) (by omega) ?_
             exact hend hff q hq7 d _ _ _ _ _ J hd pC (dU.pm _ _ (by omega)) (dM.trans pM) (by rw [PM_n _ _ _ _ _ (by omega) (by omega)]; exact dq) he)
          | (have h80 : ¬ J o 11 < J o 6 := by
               have s6 : seG P (I2 (x + 89)) 2 = J o 6 := L2.1
               have s11 : seG P (I2 (x + 89)) 4 = J o 11 := L2.2
               have sg2 := se_2 P (I2 (x + 89))
               have sg4 : I2 (x + 89) 4 ≤ seG P (I2 (x + 89)) 4 := by
                 unfold seG
                 have := nx_01 P (md (I2 (x + 89))) 59
                 split
                 · rw [st1_s]; omega
                 · omega
               omega
             have hst := coL_e o h80 (82 - d) d
             rw [hst] at he
             refine z_widen (k := 160) (n := 2480) (by omega) (by omega) ?_
             exact hend hff q hq7 d _ _ _ _ _ J hd dC dU dM dq he)
        · obtain ⟨hlt, hnG, hnN, hob, hro⟩ := nb1 h48
          obtain ⟨⟨d1, d2, d3⟩, d4, d5, d6, d7, d8⟩ := co_step (o := o) (J := J) (by rw [L5]; exact L6) L7 hlt (by rw [L5]; exact L9)
          have j0 : 0 ≤ seG P (I2 (x + 89)) 4 := by have := L2.2; have w := L6.2.2; rw [md_11] at this; omega
          obtain ⟨o1, o2, o3⟩ := or_eq P (I2 (x + 89 + 1)) (seG P (I2 (x + 89))) j0
          obtain ⟨u12, u13, u14⟩ := o3 hob
          have hrs : ¬ roB P (md (seG P (I2 (x + 89)))) = 0 := by rw [L2.e_roB]; exact hro
          obtain ⟨y12, y13, y14⟩ := ro_n L2 hrs
          have hk := Kp.nx P (roF P (J o)) 59
          have cRo : cR J o o = nxF P (roF P (J o)) 59 := by unfold cR; rw [va_up_s, L5]
          have w12 : noG P (I2 (x + 89)) 1 = cR J o o 12 := by rw [hnG, u12, y12, cRo, hk 12 (by omega)]
          have w13 : orN P (I2 (x + 89 + 1)) (seG P (I2 (x + 89))) 0 = cR J o o 13 := by rw [u13, y13, cRo, hk 13 (by omega)]
          have hkd : cR J o o 12 = 43 ∨ cR J o o 12 = 45 ∨ cR J o o 12 = 97 ∨ cR J o o 12 = 103 ∨ cR J o o 12 = 109 ∨ cR J o o 12 = 116 := by
            have w := (ro_a hro).2
            rw [← hk 12 (by omega), ← cRo] at w
            rcases w with w | w | w
            · rcases w with w | w | w | w
              · exact Or.inl w
              · exact Or.inr (Or.inl w)
              · exact Or.inr (Or.inr (Or.inr (Or.inr (Or.inl w))))
              · exact Or.inr (Or.inr (Or.inr (Or.inr (Or.inr w))))
            · exact Or.inr (Or.inr (Or.inl w.1))
            · exact Or.inr (Or.inr (Or.inr (Or.inl w)))
          have hdg : cR J o o 12 = 97 → 0 ≤ cR J o o 13 ∧ cR J o o 13 ≤ 9 := fun y => d8 (by omega) (by omega) (by omega) (by omega)
          have r12 := d5 12 (by omega) (by omega)
          have r13 := d5 13 (by omega) (by omega)
          have r14 := d5 14 (by omega) (by omega)
          have r15 := d5 15 (by omega) (by omega)
          have w14 : cR J o o 12 = 103 → orN P (I2 (x + 89 + 1)) (seG P (I2 (x + 89))) 1 = cR J o o 14 ∧ orN P (I2 (x + 89 + 1)) (seG P (I2 (x + 89))) 2 = cR J o o 15 := fun y => by
            have y1 : roF P (md (seG P (I2 (x + 89)))) 12 = 103 := by rw [y12, ← hk 12 (by omega), ← cRo]; exact y
            rw [(u14 y1).1, (u14 y1).2, (y14 y1).1, (y14 y1).2, cRo, hk 14 (by omega), hk 15 (by omega)]
            exact ⟨rfl, rfl⟩
          have oc := oA_c (f := J (o + 1)) (n0 := cR J o o 13) w14
          refine z_gen (fun I' R' => ((CPn G x z2 K2 N2 I2 R2 (J (o + 1)) h s0 v0 P n len z2 K2 N2 I' R' ∧ TQ G (x + 100) z2 K2 N2 I' R' (x + 13 + 10 * q) f) ∧ I' (x + 11) 1 = (q : Int)) ∧ I' (x + 89) = noG P (I2 (x + 89)) ∧ I' (x + 89 + 1) = noN P (I2 (x + 89 + 1)) (I2 (x + 89))) ⟨⟨⟨dC.pm (by rw [no_2]; exact e2l), dU.pm _ _ (by omega)⟩, by rw [PM_n _ _ _ _ _ (by omega) (by omega)]; exact dq⟩, PM_b _ _ _ _, PM_1 _ _ _ _⟩ ?_
          intro I3 R3 ⟨⟨⟨⟨gM, gC⟩, gU⟩, gq⟩, gb, gn⟩
          rw [hnN] at gn
          have kx3 := gC.1.1
          have gzx := gC.zx
          refine z_aload_n C dX6_carryOut_51 rfl ?_
          refine z_callV C (ci := 6) rfl (by decide) (by assumption) (mX6_carryOutOrder l G gC (by omega) (w := cR J o o 12) (n0 := cR J o o 13) (n1 := orN P (I2 (x + 89 + 1)) (seG P (I2 (x + 89))) 1) (n2 := orN P (I2 (x + 89 + 1)) (seG P (I2 (x + 89))) 2) (by rw [gb]; exact w12) (by omega) (by rw [gn]; exact w13) (by rw [gn]) (by rw [gn]) (by omega) (fun y => by have := (w14 y).1; omega) (fun y => by have := (w14 y).2; omega)) (cwV 0 C.2.2.2.2.1 gv6_187 rfl rfl rfl hd_X6_carryOutOrder ⟨Nat.le_of_ble_eq_true rfl, Nat.le_of_ble_eq_true rfl⟩) rfl rfl (Nat.le_of_ble_eq_true rfl) dX6_carryOut_52 ⟨by show 2 * d + 2 ≤ 160; omega, by show 31 * d + 31 ≤ 2480; omega⟩ ?_
          intro r9 z3 K3 N3 I4 R4 ⟨e1, oS, oT⟩
          subst e1
          rw [oc.1]
          rw [oc.2] at oT
          have aok := oA_wn L8 (n0 := cR J o o 13) (n1 := cR J o o 14) (n2 := cR J o o 15) hkd hdg
          have hwn : wnM (cR J o) o = wnP (J (o + 1)) (cR J o o 12) (cR J o o 13) (cR J o o 14) (cR J o o 15) := by unfold wnM; rw [d2]
          have oC := gC.stp oS oT
          have oU := gU.stk oS (by omega)
          have oM := (dM.trans gM).stk hx oS
          have oq : I4 (x + 11) 1 = (q : Int) := by rw [((oS.2.2 (x + 11) (by omega) (by omega)).1 (by omega))]; exact gq
          have ob : I4 (x + 89) = noG P (I2 (x + 89)) := by rw [((oS.2.2 (x + 89) (by omega) (by omega)).1 (by omega))]; exact gb
          have he2 := he
          rw [show 82 - d = (81 - d) + 1 by omega, coL_s, if_pos hlt] at he2
          have haa := aok.1
          refine z_conv (st' := [.int (zI (oA (J (o + 1)) (cR J o o 12) (cR J o o 13) (cR J o o 14) (cR J o o 15)))]) rfl rfl rfl rfl ?_
          refine z_if_lt C (tgt := 64) dX6_carryOut_55 (by decide) (by first | omega | exact b2i_r) (fun h55 => ?_) (fun h55 => ?_)
          · first
            | (have hneg : ¬ 0 ≤ oA (J (o + 1)) (cR J o o 12) (cR J o o 13) (cR J o o 14) (cR J o o 15) := by omega
               have hw0 : ¬ wnP (J (o + 1)) (cR J o o 12) (cR J o o 13) (cR J o o 14) (cR J o o 15) = 0 := fun y => hneg (aok.2.1.mpr y)
               rw [hwn, if_neg hw0] at he2
               rw [aok.2.2 hw0, ← d2] at oC
               refine z_widen (k := 160) (n := 2480) (by omega) (by omega) ?_
               exact hend hff q hq7 d _ _ _ _ _ (cR J o) hd oC oU oM oq he2)
            | (have hst := coL_e o (nb0 h48) (82 - d) d
               rw [hst] at he
               obtain ⟨pM, pC⟩ := dC.pm (nu := noN P (I2 (x + 89 + 1)) (I2 (x + 89))) (g := noG P (I2 (x + 89))) (by rw [no_2]; exact e2l)
               refine z_widen (k := 160) (n := 2480) (by omega) (by omega) ?_
               exact hend hff q hq7 d _ _ _ _ _ J hd pC (dU.pm _ _ (by omega)) (dM.trans pM) (by rw [PM_n _ _ _ _ _ (by omega) (by omega)]; exact dq) he)
            | (have h80 : ¬ J o 11 < J o 6 := by
                 have s6 : seG P (I2 (x + 89)) 2 = J o 6 := L2.1
                 have s11 : seG P (I2 (x + 89)) 4 = J o 11 := L2.2
                 have sg2 := se_2 P (I2 (x + 89))
                 have sg4 : I2 (x + 89) 4 ≤ seG P (I2 (x + 89)) 4 := by
                   unfold seG
                   have := nx_01 P (md (I2 (x + 89))) 59
                   split
                   · rw [st1_s]; omega
                   · omega
                 omega
               have hst := coL_e o h80 (82 - d) d
               rw [hst] at he
               refine z_widen (k := 160) (n := 2480) (by omega) (by omega) ?_
               exact hend hff q hq7 d _ _ _ _ _ J hd dC dU dM dq he)
          · have hw0 : wnP (J (o + 1)) (cR J o o 12) (cR J o o 13) (cR J o o 14) (cR J o o 15) = 0 := aok.2.1.mp (by omega)
            rw [hwn, if_pos hw0] at he2
            have hOc : Ok (cR J o (o + 1)) := by rw [d2]; exact L8
            obtain ⟨k1, k2, k3⟩ := doM_keep hOc (by rw [hwn]; exact hw0) d8
            have hrow : doM (cR J o) o (o + 1) = oF (J (o + 1)) (cR J o o 12) (cR J o o 13) (cR J o o 14) (cR J o o 15) := oF_do d2 L8 hkd hdg hw0
            rw [← hrow] at oC
            have sgn : Sm (md (noG P (I2 (x + 89)))) (roF P (J o)) := by rw [hnG]; exact o2.trans L2.ro
            have gt := ro_gt hro
            have s11 : seG P (I2 (x + 89)) 4 = J o 11 := L2.2
            have sg4 : I2 (x + 89) 4 ≤ seG P (I2 (x + 89)) 4 := by
              unfold seG
              have := nx_01 P (md (I2 (x + 89))) 59
              split
              · rw [st1_s]; omega
              · omega
            have g4 : noG P (I2 (x + 89)) 4 = roF P (J o) 11 := sgn.2
            have g2 : noG P (I2 (x + 89)) 2 = roF P (J o) 6 := sgn.1
            have j6 : doM (cR J o) o o 6 = cR J o o 6 := k2 6 (by omega) (by omega)
            have j11 : doM (cR J o) o o 11 = cR J o o 11 := k2 11 (by omega) (by omega)
            have hLn : LQ P (I4 (x + 89)) o (doM (cR J o) o) (d + 1) := by
              rw [ob]
              refine ⟨L1.e_noG, ?_, by omega, fun y1 y2 => ?_, ?_, ?_, ?_, k1, ?_⟩
              · have e : md (seG P (noG P (I2 (x + 89)))) = nxF P (md (noG P (I2 (x + 89)))) 59 := by
                  rw [show seG P (noG P (I2 (x + 89))) = st1 (noG P (I2 (x + 89))) 4 (noG P (I2 (x + 89)) 4 + nxB P (md (noG P (I2 (x + 89)))) 59) from if_pos (by omega), ← md_nx]
                rw [e]
                have w := sgn.nx (P := P) 59
                rw [← cRo] at w
                exact ⟨w.1.trans j6.symm, w.2.trans j11.symm⟩
              · rcases L9 with w | ⟨q2, w⟩
                · omega
                · cases q2 with
                  | zero => exact absurd w (by show ¬ (0 : Int) = -6; omega)
                  | succ q2 =>
                    rw [ffL_K, if_neg hro] at w
                    by_cases y3 : roF P (J o) 11 = roF P (J o) 6
                    · omega
                    · unfold ffK at w
                      rw [if_neg y3, if_pos (by rw [← sgn.e_nxB]; exact y2)] at w
                      have y4 := (L6.ro.nx (w := 59) (by omega)).2.2
                      omega
              · rw [k3 _ (by omega) (by omega) (by omega) (by omega), d1, L5]
              · rw [L5] at d4
                exact ⟨by rw [j6]; exact d4.1, d4.2.1, by rw [j6, j11]; exact d4.2.2⟩
              · intro j j1 j2
                rw [k2 j (by omega) (by omega)]
                exact d5 j j1 j2
              · rw [j6, j11, d3]
                rcases d7 with w | ⟨q2, w⟩
                · exact Or.inl w
                · refine Or.inr ⟨q2, ?_⟩
                  rw [L5] at w
                  exact (Sm.e_ffL q2 _ _ ⟨j6, j11⟩).trans w
            refine z_iinc C dX6_carryOut_58 rfl (by decide) rfl ?_
            refine z_goto C (tgt := 35) dX6_carryOut_61 (by decide) ?_
            rw [show (d : Int) + 1 = ((d + 1 : Nat) : Int) by omega]
            have hd1 : d + 1 ≤ 80 := by omega
            have hd2 : 80 - (d + 1) < q9 := li_dec hqd hd1
            have hd3 : 82 - (d + 1) = 81 - d := by omega
            refine z_widen (k := 2 * (d + 1)) (n := 31 * (d + 1)) (by omega) (by omega) ?_
            exact ih (d + 1) _ _ _ _ _ (doM (cR J o) o) hd1 hd2 oC oU oM oq hLn (by rw [hd3]; exact he2)
  refine z_aload_n C dX6_carryOut_0 rfl ?_
  refine z_gR C (ci := 6) (k := 4) rfl (by decide) rfl (by decide) wl_6 wq_2_5 (by decide) dX6_carryOut_1 (by assumption) (by assumption) ?_
  refine z_mem (PM_s I (x + 89)).symm rfl ?_
  refine z_callVd C (ci := 3) rfl (by decide) (by assumption) (nX3_findFault l G cP hPk) (cwV 0 C.2.2.2.2.1 gv6_177 rfl rfl rfl hd_X3_findFault ⟨Nat.le_of_ble_eq_true rfl, Nat.le_of_ble_eq_true rfl⟩) rfl rfl (Nat.le_of_ble_eq_true rfl) dX6_carryOut_4 ⟨(Nat.le_of_ble_eq_true rfl), (Nat.le_of_ble_eq_true rfl)⟩ ?_
  refine z_top (y := .int (zI (ffV P (M o)))) (congrArg (fun w => Value.int (zI w)) ((show fcA (fcE (I (x + 89 + 2)) (I (x + 89 + 1)) (I (x + 89))) = ffV P (fun _ => len) from by rw [fcE_ffV hPk (f := fun _ => len) cPd.2.1.symm, show I (x + 89 + 2) = P from cPd.2.2]).trans f6)) ?_
  refine z_gen (fun I' R' => (CPn G x z K N I R f h s0 v0 P n len z K N I' R' ∧ I' (x + 11) = I (x + 11)) ∧ R' = R) ⟨⟨hC.pm (by rw [fcE_2]; exact cPd.2.1), PM_n _ _ _ _ _ (by omega) (by omega)⟩, rfl⟩ ?_
  intro I1 R1 ⟨⟨⟨bM, bC⟩, b11⟩, bR⟩
  rw [bR] at bM bC ⊢
  refine z_bipush C dX6_carryOut_7 (by decide) ?_
  refine z_icmp_eq C (tgt := 15) dX6_carryOut_9 (by decide) (by first | omega | exact b2i_r) (by first | omega | exact b2i_r) (fun h9 => ?_) (fun h9 => ?_)
  · have kh1 := bC.2.1.1.1
    have kn1 := bC.2.2.1.1
    refine z_aload_n C dX6_carryOut_15 rfl ?_
    refine z_gR C (ci := 6) (k := 1) rfl (by decide) rfl (by decide) wl_6 wq_1_20 (by decide) dX6_carryOut_16 (by assumption) (by assumption) ?_
    refine z_aload_n C dX6_carryOut_19 rfl ?_
    refine z_gR C (ci := 6) (k := 0) rfl (by decide) rfl (by decide) wl_6 wq_1_16 (by decide) dX6_carryOut_20 (by assumption) (by assumption) ?_
    refine z_callVd C (ci := 2) rfl (by decide) (by assumption) (mX2_remember l G bC.2.1.1 bC.2.2.1.1 (by omega) (by rw [b11]; exact hq) hq7) (cwV 1 C.2.2.2.2.1 gv6_41 rfl rfl rfl hd_X2_remember ⟨Nat.le_of_ble_eq_true rfl, Nat.le_of_ble_eq_true rfl⟩) rfl rfl (Nat.le_of_ble_eq_true rfl) dX6_carryOut_23 ⟨Nat.zero_le _, Nat.zero_le _⟩ ?_
    refine z_gen (fun I' R' => CI G x z K N I' R' f h s0 v0 P n len ∧ TQ G (x + 100) z K N I' R' (x + 13 + 10 * q) f ∧ ∀ a : Nat, (a < x + 13 ∨ x + 83 ≤ a) → I' a = I1 a ∧ R' a = R a) (bC.rem2 (by rw [b11]; exact hq)) ?_
    intro I2 R2 ⟨dC, dU, dF⟩
    obtain ⟨⟨ex, er0, er1, er2, er3, er4⟩, ⟨eH, ⟨eS, eN⟩, eX, eP⟩, eT, ⟨ep, en, em, eJ⟩, eSl, ePd⟩ := id dC
    have dq : I2 (x + 11) 1 = (q : Int) := by rw [(dF (x + 11) (by omega)).1, b11]; exact hq
    have kp2 := eP.1
    have hPk2 : POk (I2 (x + 89 + 2)) (I2 (x + 89) 2) := by rw [ePd.2.1]; exact ePd.1
    have hf2 : FrM x z K N I R z K N I2 R2 := bM.trans ⟨Nat.le_refl z, fun _ _ => ⟨rfl, rfl⟩, fun a h1 h2 => dF a (by omega)⟩
    refine z_aload_n C dX6_carryOut_26 rfl ?_
    refine z_gR C (ci := 6) (k := 4) rfl (by decide) rfl (by decide) wl_6 wq_2_5 (by decide) dX6_carryOut_27 (by assumption) (by assumption) ?_
    refine z_mem (PM_s I2 (x + 89)).symm rfl ?_
    refine z_callVd C (ci := 3) rfl (by decide) (by assumption) (nX3_rewind l G eP hPk2) (cwV 0 C.2.2.2.2.1 gv6_180 rfl rfl rfl hd_X3_rewind ⟨Nat.le_of_ble_eq_true rfl, Nat.le_of_ble_eq_true rfl⟩) rfl rfl (Nat.le_of_ble_eq_true rfl) dX6_carryOut_30 ⟨(Nat.le_of_ble_eq_true rfl), (Nat.le_of_ble_eq_true rfl)⟩ ?_
    refine z_gen (fun I' R' => ((CPn G x z K N I2 R2 f h s0 v0 P n len z K N I' R' ∧ TQ G (x + 100) z K N I' R' (x + 13 + 10 * q) f) ∧ I' (x + 11) 1 = (q : Int)) ∧ I' (x + 89) = st1 (I2 (x + 89)) 4 0) ⟨⟨⟨dC.pm (by rw [st1_n (by omega)]; exact ePd.2.1), dU.pm _ _ (by omega)⟩, by rw [PM_n _ _ _ _ _ (by omega) (by omega)]; exact dq⟩, PM_b _ _ _ _⟩ ?_
    intro I3 R3 ⟨⟨⟨⟨gM, gC⟩, gU⟩, gq⟩, gb⟩
    refine z_iconst C dX6_carryOut_33 ?_
    refine z_istore_n C dX6_carryOut_34 (by decide) rfl ?_
    obtain ⟨⟨c1, c2⟩, c3, c4, c5, c6, c7⟩ := coJ_ok2 (I := M) (o := o) (by rw [m1]; exact cT.2.2.1) (by rw [m5]; exact pk9) mF (by rw [m5]; exact h9)
    have cf : coJ M o (o + 1) = f := by
      unfold coJ
      rw [u2_row (by omega), recM_1, va_up_n (by omega), m1]
    have z4 : st1 (I2 (x + 89)) 4 0 4 = 0 := st1_s _ _ _
    have z2 : st1 (I2 (x + 89)) 4 0 2 = len := by rw [st1_n (by omega)]; exact ePd.2.1
    refine z_widen (k := 2 * 0) (n := 31 * 0) (by omega) (by omega) ?_
    refine hloop h9 q hq7 81 0 _ _ _ _ _ (coJ M o) (by omega) (by omega) (by rw [cf]; exact gC) gU (hf2.trans gM) gq ?_ rfl
    rw [gb]
    rw [c3, m5] at c4 c7
    refine ⟨?_, ?_, by omega, fun y => absurd y (by omega), by rw [c3, m5], c4, c5, c6, c7⟩
    · have w := hPk2.z4
      rw [show I2 (x + 89 + 2) = P from ePd.2.2] at w
      exact w
    · rw [show seG P (st1 (I2 (x + 89)) 4 0) = st1 (I2 (x + 89)) 4 0 from if_neg (by omega)]
      exact ⟨by rw [md_6, z2, c1, m6], by rw [md_11, z4, c2]⟩
  · refine z_bipush C dX6_carryOut_12 (by decide) ?_
    refine z_widen (k := 160) (n := 2480) (Nat.le_of_ble_eq_true rfl) (Nat.le_of_ble_eq_true rfl) ?_
    exact z_iret2 C hQ rfl dX6_carryOut_14 ⟨zr (if_neg h9).symm, bM, fun z9 => absurd z9 h9, fun _ => bC⟩

