theorem op_cer {G : GG} {x z z' : Nat} {K N K' N' : Nat → Nat} {I I' : MI} {R R' : MR} {f : Nat → Int} {q : Int} (h : TQ G (x + 100) z K N I R (x + 1) f) (hx : x + 100 ≤ z) (hP : ceP G (x + 1) (x + 84) f q z K N I R z' K' N' I' R') : StK x z K N I R z' K' N' I' R' ∧ TQ G (x + 100) z' K' N' I' R' (x + 1) (fCer f q) := by
  have h5 := h.2.2.1.2.2.2.2.2.1
  obtain ⟨⟨p1, p2⟩, p3, p4, p5, p6⟩ := id hP
  have hR : ∀ a : Nat, a < z → (a < x + 1 ∨ x + 11 ≤ a) → a ≠ x + 86 → R' a = R a := fun a h1 h2 h3 => by
    funext j
    by_cases e : a = x + 1 + 4 + q.toNat ∧ j = 4
    · have hc : ¬ ceC f q := fun c => by have := c.1; omega
      rw [e.1, e.2]; exact p6 hc
    · exact p4 a j h1 (by omega) e
  have sk : StK x z K N I R z' K' N' I' R' := ⟨p1, p2, fun a h1 h2 => ⟨fun h3 => p3 a h1 (by omega), fun h3 => hR a h1 h2 h3⟩⟩
  refine ⟨sk, ?_⟩
  by_cases hq : q.toNat < 6
  · exact h.cert hP (by omega) (by omega) hx hq
  · have e : fCer f q = f := if_neg (fun w => by have := w.1; omega)
    rw [e]
    refine h.keep (CK.lo p1 p2 fun a h1 h2 => ⟨p3 a h2 (by omega), hR a h2 (by omega) (by omega)⟩) fun a h1 h2 => ⟨p3 a (by omega) (by omega), ?_⟩
    funext j
    exact p4 a j (by omega) (by omega) (by omega)
theorem plT_cong {F F' : Nat → Int} {r : Nat} (hr : F' r = F r) : ∀ i : Nat, (∀ j : Nat, j < i → F' j = F j) → plT F' r i = plT F r i
  | 0, _ => rfl
  | i + 1, h => by rw [plT_s, plT_s, plT_cong hr i fun j hj => h j (by omega), hr, h i (by omega)]
theorem TQ.plc {G : GG} {X z : Nat} {K N : Nat → Nat} {I : MI} {R : MR} {t : Nat} {f : Nat → Int} (h : TQ G X z K N I R t f) {r : Nat} (hr : (r : Int) < f 3) : plT (I (t + 2)) r (I t 3).toNat = plcA f r := by
  have h3 := h.2.2.1.2.2.2.1
  rw [h.2.1.2.1.1]
  unfold plcA
  rw [← plT_plc (fun j => f (6 + j)) (n := (f 3).toNat) (r := r) (by omega)]
  exact plT_cong (F := fun j => f (6 + j)) (h.2.1.2.2.1 r hr) _ fun j hj => h.2.1.2.2.1 j (by omega)
theorem TQ.tel {G : GG} {X z : Nat} {K N : Nat → Nat} {I : MI} {R : MR} {t : Nat} {f : Nat → Int} (h : TQ G X z K N I R t f) {g : Nat} (hg : (g : Int) < f 5) (wh : Int) : telV I R (t + 4 + g) wh = ofG f g wh := by
  obtain ⟨g0, g1, g2, g3⟩ := h.2.1.2.2.2 g hg
  unfold telV ofG
  rw [g0, g1, g2, g3]
  rcases h.2.2.2 g hg with ⟨e, e2⟩ | ⟨c, e, e1, e2, e3, e4, e5, e6, e7, e8, e9⟩
  · rw [e, e2]
    rfl
  · rw [e, e6, if_pos rfl, if_pos rfl, ← e7, ← e8]
    rfl
theorem TQ.crt {G : GG} {X z : Nat} {K N : Nat → Nat} {I : MI} {R : MR} {t : Nat} {f : Nat → Int} (h : TQ G X z K N I R t f) : ∀ n : Nat, (n : Int) ≤ f 5 → cerN R t n = certN f n
  | 0, _ => rfl
  | n + 1, hn => by
    rw [cerN_s, h.crt n (by omega)]
    show _ = certN f n + f (24 + 36 * n)
    rcases h.2.2.2 n (by omega) with ⟨e, e2⟩ | ⟨c, e, e1, e2, e3, e4, e5, e6, e7, e8, e9⟩
    · rw [e, e2]; rfl
    · rw [e, e6]; rfl
theorem TQ.crk {G : GG} {X z : Nat} {K N : Nat → Nat} {I : MI} {R : MR} {t : Nat} {f : Nat → Int} (h : TQ G X z K N I R t f) {g : Nat} (hg : (g : Int) < f 5) : ∀ c : Nat, R (t + 4 + g) 4 = some c → zK G z K c 0 := fun c hc => by
  rcases h.2.2.2 g hg with ⟨e, e2⟩ | ⟨c', e, e1, e2, e3⟩
  · rw [e] at hc; cases hc
  · rw [e] at hc; cases hc; exact e2
set_option maxHeartbeats 4000000 in
set_option maxRecDepth 100000 in
theorem mX6_certify (l : Launch) (G : GG) {z : Nat} {K N : Nat → Nat} {I : MI} {R : MR} {x : Nat} {f h s0 v0 P : Nat → Int} {n len : Int} (hC : CI G x z K N I R f h s0 v0 P n len) (hx : x + 100 ≤ z) {gq : Int} (hgq : -2147483648 ≤ gq ∧ gq < 2147483648) : Con l G yX6_certify (Cond.code yX6_certify cX6_certify 2 (some .int) :: wsL_law) ⟨5, 2, 31, 111⟩ 2 31 [.ref x, .int (zI gq)] z K N I R (fun r z' K' N' I' R' => r = some (.int (zI (ceV f gq))) ∧ CPc G x z K N I R (ceV f gq) (fCer f gq) f h s0 v0 P n len z' K' N' I' R') := by
  refine Con.of (own := RX6) (cc := cX6_certify) (maxL := 2) (ret := (some .int)) (by decide +kernel) rfl rfl (Nat.le_of_ble_eq_true rfl) (by decide) rfl ?_
  intro p e9 s mt args below meth c Q hin hQ C
  obtain ⟨⟨cx, cr0, cr1, cr2, cr3, cr4⟩, ⟨cH, ⟨cS, cN⟩, cX, cP⟩, cT, ⟨cp, cn, cm, cJ⟩, cSl, cPd⟩ := id hC
  have kn := cT.1.1
  have kh := cH.1
  obtain ⟨q, hq⟩ := Int.eq_ofNat_of_zero_le cp.1
  have hq7 : q < 7 := by omega
  have zx9 := hC.zx
  refine z_aload_n C dX6_certify_0 rfl ?_
  refine z_gR C (ci := 6) (k := 1) rfl (by decide) rfl (by decide) wl_6 wq_1_20 (by decide) dX6_certify_1 (by assumption) (by assumption) ?_
  refine z_aload_n C dX6_certify_4 rfl ?_
  refine z_gR C (ci := 6) (k := 0) rfl (by decide) rfl (by decide) wl_6 wq_1_16 (by decide) dX6_certify_5 (by assumption) (by assumption) ?_
  refine z_callVd C (ci := 2) rfl (by decide) (by first | assumption | exact hM.1) (mX2_remember l G cH cT.1 (by omega) hq hq7) (cwV 1 C.2.2.2.2.1 gv6_41 rfl rfl rfl hd_X2_remember ⟨Nat.le_of_ble_eq_true rfl, Nat.le_of_ble_eq_true rfl⟩) rfl rfl (Nat.le_of_ble_eq_true rfl) dX6_certify_8 ⟨Nat.zero_le _, Nat.zero_le _⟩ ?_
  refine z_gen (fun I' R' => CI G x z K N I' R' f h s0 v0 P n len ∧ TQ G (x + 100) z K N I' R' (x + 13 + 10 * q) f ∧ ∀ a : Nat, (a < x + 13 ∨ x + 83 ≤ a) → I' a = I a ∧ R' a = R a) (hC.rem2 hq) ?_
  intro I1 R1 ⟨dC, dU, dF⟩
  obtain ⟨⟨ex, er0, er1, er2, er3, er4⟩, ⟨eH, ⟨eS, eN⟩, eX, eP⟩, eT, ⟨ep, en, em, eJ⟩, eSl, ePd⟩ := id dC
  have dq : I1 (x + 11) 1 = (q : Int) := by rw [(dF (x + 11) (by omega)).1]; exact hq
  have hf1 : FrM x z K N I R z K N I1 R1 := ⟨Nat.le_refl z, fun _ _ => ⟨rfl, rfl⟩, fun a h1 h2 => dF a (by omega)⟩
  refine z_aload_n C dX6_certify_11 rfl ?_
  refine z_gR C (ci := 6) (k := 1) rfl (by decide) rfl (by decide) wl_6 wq_1_20 (by decide) dX6_certify_12 (by assumption) (by assumption) ?_
  refine z_aload_n C dX6_certify_15 rfl ?_
  refine z_gR C (ci := 6) (k := 0) rfl (by decide) rfl (by decide) wl_6 wq_1_16 (by decide) dX6_certify_16 (by assumption) (by assumption) ?_
  refine z_aload_n C dX6_certify_19 rfl ?_
  refine z_gR C (ci := 6) (k := 3) rfl (by decide) rfl (by decide) wl_6 wq_2_1 (by decide) dX6_certify_20 (by assumption) (by assumption) ?_
  refine z_iload_n C dX6_certify_23 rfl ?_
  refine z_callV C (ci := 4) rfl (by decide) (by first | assumption | exact hM.1) (mX4_certifyBy l G eT.1 eT.2.1 eT.2.2.1 eX (by omega) hgq) (cwV 2 C.2.2.2.2.1 gv6_73 rfl rfl rfl hd_X4_certifyBy ⟨Nat.le_of_ble_eq_true rfl, Nat.le_of_ble_eq_true rfl⟩) rfl rfl (Nat.le_of_ble_eq_true rfl) dX6_certify_24 ⟨Nat.le_of_ble_eq_true rfl, Nat.le_of_ble_eq_true rfl⟩ ?_
  intro r9 z2 K2 N2 I2 R2 ⟨e1, e2⟩
  subst e1
  obtain ⟨oS, oT⟩ := op_cer eT hx e2
  have oC := dC.stp oS oT
  have oU := dU.stk oS (by omega)
  have oM := hf1.stk hx oS
  have oq : I2 (x + 11) 1 = (q : Int) := by rw [((oS.2.2 (x + 11) (by omega) (by omega)).1 (by omega))]; exact dq
  have oH := oC.2.1.1
  have koh := oH.1
  obtain ⟨og, on, ok, -⟩ := oC.2.2.2.1
  have aok := ceV_ok eT.2.2.1 gq
  refine z_conv (st' := [.int (zI (ceV f gq)), .ref (x + 11)]) rfl rfl rfl rfl ?_
  refine z_callVd C (ci := 2) rfl (by decide) (by first | assumption | exact hM.1) (mX2_settle l G oH ⟨by have := aok.1.1; omega, aok.1.2⟩ og (by rw [on]; exact ok)) (cwV 1 C.2.2.2.2.1 gv6_49 rfl rfl rfl hd_X2_settle ⟨Nat.le_of_ble_eq_true rfl, Nat.le_of_ble_eq_true rfl⟩) rfl rfl (Nat.le_of_ble_eq_true rfl) dX6_certify_27 ⟨(Nat.le_of_ble_eq_true rfl), (Nat.le_of_ble_eq_true rfl)⟩ ?_
  exact z_iret2 C hQ rfl dX6_certify_30 ⟨rfl, CPc_fin oC oq oU oM (fun z9 => aok.2.2 (fun c9 => z9 (aok.2.1.mpr c9)))⟩

set_option maxHeartbeats 4000000 in
set_option maxRecDepth 100000 in
theorem mX6_ofRing (l : Launch) (G : GG) {z : Nat} {K N : Nat → Nat} {I : MI} {R : MR} {x : Nat} {f h s0 v0 P : Nat → Int} {n len : Int} (hC : CI G x z K N I R f h s0 v0 P n len) (hx : x + 100 ≤ z) {rg wh : Int} (hrg : -2147483648 ≤ rg ∧ rg < 2147483648) (hwh : -2147483648 ≤ wh ∧ wh < 2147483648) : Cod l G yX6_ofRing (Cond.code yX6_ofRing cX6_ofRing 3 (some .int) :: wsL_law) ⟨1, 0, 0, 23⟩ [.ref x, .int (zI rg), .int (zI wh)] z K N I R (some (.int (zI (if 0 ≤ rg ∧ rg ≤ f 3 - 1 then (if wh = 0 then f (6 + rg.toNat) else if wh = 1 then f 4 / 2 ^ rg.toNat % 2 else if wh = 2 then plcA f rg.toNat else -2) else -1)))) I R := by
  refine Con.of (own := RX6) (cc := cX6_ofRing) (maxL := 3) (ret := (some .int)) (by decide +kernel) rfl rfl (Nat.le_of_ble_eq_true rfl) (by decide) rfl ?_
  intro p e9 s mt args below meth c Q hin hQ C
  obtain ⟨⟨cx, cr0, cr1, cr2, cr3, cr4⟩, ⟨cH, ⟨cS, cN⟩, cX, cP⟩, cT, ⟨cp, cn, cm, cJ⟩, cSl, cPd⟩ := id hC
  have kn := cT.1.1
  have kh := cH.1
  obtain ⟨ho, ⟨r0, r1, r2⟩, ⟨k1, k2, k3⟩, ⟨n1, n2, n3⟩, hg⟩ := id cT.1
  obtain ⟨⟨t0, t1, t2⟩, ⟨t3, t4, t5⟩, tr, tg⟩ := id cT.2.1
  obtain ⟨b0, b1, b2, b3, b4, b5, br, bg⟩ := id cT.2.2.1
  have b4b := Ok4 cT.2.2.1
  have kp := cP.1
  refine z_aload_n C dX6_ofRing_0 rfl ?_
  refine z_gR C (ci := 6) (k := 0) rfl (by decide) rfl (by decide) wl_6 wq_1_16 (by decide) dX6_ofRing_1 (by assumption) (by assumption) ?_
  refine z_iload_n C dX6_ofRing_4 rfl ?_
  refine z_callVd C (ci := 4) rfl (by decide) (by first | assumption | exact hM.1) (mX4_hasRing l G cT.1 cT.2.1 cT.2.2.1 hrg) (cwV 1 C.2.2.2.2.1 gv6_77 rfl rfl rfl hd_X4_hasRing ⟨Nat.le_of_ble_eq_true rfl, Nat.le_of_ble_eq_true rfl⟩) rfl rfl (Nat.le_of_ble_eq_true rfl) dX6_ofRing_5 ⟨Nat.zero_le _, Nat.zero_le _⟩ ?_
  rw [t3]
  refine z_if_ne C (tgt := 13) dX6_ofRing_8 (by decide) (by first | omega | exact b2i_r) (fun h8 => ?_) (fun h8 => ?_)
  · have hb := b2i_1.mp h8
    obtain ⟨n9, rfl⟩ := Int.eq_ofNat_of_zero_le (show 0 ≤ rg by omega)
    simp only [Int.toNat_natCast] at hQ
    refine z_iload_n C dX6_ofRing_13 rfl ?_
    by_cases hs14 : wh < 0 ∨ 2 < wh
    · refine z_tout C (tgt := 76) dX6_ofRing_14 (by omega) hs14 (by decide) ?_
      refine z_bipush C dX6_ofRing_76 (by decide) ?_
      exact z_iret2 C hQ rfl dX6_ofRing_78 ⟨zr (by first | exact (if_neg hb).symm | (rw [if_pos hb]; first | (subst hv; rfl) | (subst hv; show _ = f 4 / 2 ^ n9 % 2; omega) | (rw [if_neg (by omega), if_neg (by omega), if_neg (by omega)]))), rfl, rfl, rfl, rfl, rfl⟩
    · rcases (show wh = 0 ∨ wh = 1 ∨ wh = 2 by omega) with hv | hv | hv
      · refine z_tin C (tgt := 40) 0 dX6_ofRing_14 hv (by decide) (by decide) (by decide) rfl (by decide) ?_
        refine z_aload_n C dX6_ofRing_40 rfl ?_
        refine z_gR C (ci := 6) (k := 0) rfl (by decide) rfl (by decide) wl_6 wq_1_16 (by decide) dX6_ofRing_41 (by assumption) (by assumption) ?_
        refine z_gR C (ci := 4) (k := 1) rfl (by decide) rfl (by decide) wl_4 wq_19_18 (by decide) dX6_ofRing_44 (by assumption) (by assumption) ?_
        refine z_iload_n C dX6_ofRing_47 rfl ?_
        refine z_ialdk C (n9) dX6_ofRing_48 (by assumption) (by first | rfl | omega) (by omega) (by omega) ?_
        rw [tr n9 (by omega)]
        exact z_iret2 C hQ rfl dX6_ofRing_49 ⟨zr (by first | exact (if_neg hb).symm | (rw [if_pos hb]; first | (subst hv; rfl) | (subst hv; show _ = f 4 / 2 ^ n9 % 2; omega) | (rw [if_neg (by omega), if_neg (by omega), if_neg (by omega)]))), rfl, rfl, rfl, rfl, rfl⟩
      · refine z_tin C (tgt := 50) 1 dX6_ofRing_14 hv (by decide) (by decide) (by decide) rfl (by decide) ?_
        refine z_aload_n C dX6_ofRing_50 rfl ?_
        refine z_gR C (ci := 6) (k := 0) rfl (by decide) rfl (by decide) wl_6 wq_1_16 (by decide) dX6_ofRing_51 (by assumption) (by assumption) ?_
        refine z_iload_n C dX6_ofRing_54 rfl ?_
        refine z_callVd C (ci := 4) rfl (by decide) (by first | assumption | exact hM.1) (mX4_isStacked l G cT.1 cT.2.1 cT.2.2.1 (by omega)) (cwV 1 C.2.2.2.2.1 gv6_85 rfl rfl rfl hd_X4_isStacked ⟨Nat.le_of_ble_eq_true rfl, Nat.le_of_ble_eq_true rfl⟩) rfl rfl (Nat.le_of_ble_eq_true rfl) dX6_ofRing_55 ⟨Nat.zero_le _, Nat.zero_le _⟩ ?_
        rw [t4]
        have h01 := bit01 (f 4 / 2 ^ n9)
        refine z_if_eq C (tgt := 65) dX6_ofRing_58 (by decide) (by first | omega | exact b2i_r) (fun h58 => ?_) (fun h58 => ?_)
        · have h58b : f 4 / 2 ^ n9 % 2 = 0 := h58
          refine z_iconst C dX6_ofRing_65 ?_
          exact z_iret2 C hQ rfl dX6_ofRing_66 ⟨zr (by first | exact (if_neg hb).symm | (rw [if_pos hb]; first | (subst hv; rfl) | (subst hv; show _ = f 4 / 2 ^ n9 % 2; omega) | (rw [if_neg (by omega), if_neg (by omega), if_neg (by omega)]))), rfl, rfl, rfl, rfl, rfl⟩
        · have h58b : ¬ f 4 / 2 ^ n9 % 2 = 0 := h58
          refine z_iconst C dX6_ofRing_61 ?_
          refine z_goto C (tgt := 66) dX6_ofRing_62 (by decide) ?_
          exact z_iret2 C hQ rfl dX6_ofRing_66 ⟨zr (by first | exact (if_neg hb).symm | (rw [if_pos hb]; first | (subst hv; rfl) | (subst hv; show _ = f 4 / 2 ^ n9 % 2; omega) | (rw [if_neg (by omega), if_neg (by omega), if_neg (by omega)]))), rfl, rfl, rfl, rfl, rfl⟩
      · refine z_tin C (tgt := 67) 2 dX6_ofRing_14 hv (by decide) (by decide) (by decide) rfl (by decide) ?_
        refine z_aload_n C dX6_ofRing_67 rfl ?_
        refine z_gR C (ci := 6) (k := 0) rfl (by decide) rfl (by decide) wl_6 wq_1_16 (by decide) dX6_ofRing_68 (by assumption) (by assumption) ?_
        refine z_iload_n C dX6_ofRing_71 rfl ?_
        refine z_callVd C (ci := 4) rfl (by decide) (by first | assumption | exact hM.1) (mX4_placeOf l G cT.1 cT.2.1 cT.2.2.1 (r := n9) (by omega)) (cwV 1 C.2.2.2.2.1 gv6_88 rfl rfl rfl hd_X4_placeOf ⟨Nat.le_of_ble_eq_true rfl, Nat.le_of_ble_eq_true rfl⟩) rfl rfl (Nat.le_of_ble_eq_true rfl) dX6_ofRing_72 ⟨Nat.zero_le _, Nat.zero_le _⟩ ?_
        rw [cT.plc (by omega)]
        exact z_iret2 C hQ rfl dX6_ofRing_75 ⟨zr (by first | exact (if_neg hb).symm | (rw [if_pos hb]; first | (subst hv; rfl) | (subst hv; show _ = f 4 / 2 ^ n9 % 2; omega) | (rw [if_neg (by omega), if_neg (by omega), if_neg (by omega)]))), rfl, rfl, rfl, rfl, rfl⟩
  · have hb := b2i_0.mp h8
    refine z_iconst C dX6_ofRing_11 ?_
    exact z_iret2 C hQ rfl dX6_ofRing_12 ⟨zr (by first | exact (if_neg hb).symm | (rw [if_pos hb]; first | (subst hv; rfl) | (subst hv; show _ = f 4 / 2 ^ n9 % 2; omega) | (rw [if_neg (by omega), if_neg (by omega), if_neg (by omega)]))), rfl, rfl, rfl, rfl, rfl⟩

set_option maxHeartbeats 4000000 in
set_option maxRecDepth 100000 in
theorem mX6_ofGauge (l : Launch) (G : GG) {z : Nat} {K N : Nat → Nat} {I : MI} {R : MR} {x : Nat} {f h s0 v0 P : Nat → Int} {n len : Int} (hC : CI G x z K N I R f h s0 v0 P n len) (hx : x + 100 ≤ z) {gg wh : Int} (hgg : -2147483648 ≤ gg ∧ gg < 2147483648) (hwh : -2147483648 ≤ wh ∧ wh < 2147483648) : Cod l G yX6_ofGauge (Cond.code yX6_ofGauge cX6_ofGauge 4 (some .int) :: wsL_law) ⟨3, 0, 0, 62⟩ [.ref x, .int (zI gg), .int (zI wh)] z K N I R (some (.int (zI (if 0 ≤ gg ∧ gg ≤ f 5 - 1 then ofG f gg.toNat wh else -1)))) I R := by
  refine Con.of (own := RX6) (cc := cX6_ofGauge) (maxL := 4) (ret := (some .int)) (by decide +kernel) rfl rfl (Nat.le_of_ble_eq_true rfl) (by decide) rfl ?_
  intro p e9 s mt args below meth c Q hin hQ C
  obtain ⟨⟨cx, cr0, cr1, cr2, cr3, cr4⟩, ⟨cH, ⟨cS, cN⟩, cX, cP⟩, cT, ⟨cp, cn, cm, cJ⟩, cSl, cPd⟩ := id hC
  have kn := cT.1.1
  have kh := cH.1
  obtain ⟨ho, ⟨r0, r1, r2⟩, ⟨k1, k2, k3⟩, ⟨n1, n2, n3⟩, hg⟩ := id cT.1
  obtain ⟨⟨t0, t1, t2⟩, ⟨t3, t4, t5⟩, tr, tg⟩ := id cT.2.1
  obtain ⟨b0, b1, b2, b3, b4, b5, br, bg⟩ := id cT.2.2.1
  have b4b := Ok4 cT.2.2.1
  have kp := cP.1
  refine z_aload_n C dX6_ofGauge_0 rfl ?_
  refine z_gR C (ci := 6) (k := 0) rfl (by decide) rfl (by decide) wl_6 wq_1_16 (by decide) dX6_ofGauge_1 (by assumption) (by assumption) ?_
  refine z_iload_n C dX6_ofGauge_4 rfl ?_
  refine z_callVd C (ci := 4) rfl (by decide) (by first | assumption | exact hM.1) (mX4_gaugeAt l G cT.1 cT.2.1 cT.2.2.1 hgg) (cwV 1 C.2.2.2.2.1 gv6_91 rfl rfl rfl hd_X4_gaugeAt ⟨Nat.le_of_ble_eq_true rfl, Nat.le_of_ble_eq_true rfl⟩) rfl rfl (Nat.le_of_ble_eq_true rfl) dX6_ofGauge_5 ⟨Nat.zero_le _, Nat.zero_le _⟩ ?_
  by_cases hq9 : 0 ≤ gg ∧ gg ≤ I (x + 1) 5 - 1
  · obtain ⟨n9, rfl⟩ := Int.eq_ofNat_of_zero_le (show 0 ≤ gg by omega)
    have kg9 := (hg n9 (by omega)).1
    have kr9 := (hg n9 (by omega)).2
    refine z_top (y := .ref ((x + 1) + 4 + n9)) (by rw [if_pos hq9]; rfl) ?_
    refine z_astore_n C dX6_ofGauge_8 (by decide) rfl ?_
    refine z_aload_n C dX6_ofGauge_9 rfl ?_
    refine z_nonnullR C (tgt := 17) dX6_ofGauge_10 (by decide) ?_
    have hyq : 0 ≤ (n9 : Int) ∧ (n9 : Int) ≤ f 5 - 1 := by omega
    simp only [Int.toNat_natCast] at hQ
    obtain ⟨g0, g1, g2, g3⟩ := tg n9 (by omega)
    obtain ⟨c0, c1, c2, c3, c4⟩ := bg n9 (by omega)
    rw [← g2] at c2
    rw [← g3] at c3
    refine z_aload_n C dX6_ofGauge_17 rfl ?_
    refine z_iload_n C dX6_ofGauge_18 rfl ?_
    refine z_callVd C (ci := 1) rfl (by decide) (by first | assumption | exact hM.1) (mX1_tell l G kg9 c3 c2 (cT.crk (by omega)) hwh) (cwV 1 C.2.2.2.2.1 gv6_95 rfl rfl rfl hd_X1_tell ⟨Nat.le_of_ble_eq_true rfl, Nat.le_of_ble_eq_true rfl⟩) rfl rfl (Nat.le_of_ble_eq_true rfl) dX6_ofGauge_19 ⟨Nat.zero_le _, Nat.zero_le _⟩ ?_
    try rw [cT.tel (g := n9) (by omega)]
    exact z_iret2 C hQ rfl dX6_ofGauge_22 ⟨zr (by first | exact (if_neg hno).symm | exact (if_pos hyq).symm), rfl, rfl, rfl, rfl, rfl⟩
  · refine z_top (y := .null) (by rw [if_neg hq9]; rfl) ?_
    refine z_astoreN_n C dX6_ofGauge_8 (by decide) rfl ?_
    refine z_aloadN_n C dX6_ofGauge_9 rfl ?_
    refine z_nonnullN C dX6_ofGauge_10 ?_
    have hno : ¬ (0 ≤ gg ∧ gg ≤ f 5 - 1) := by omega
    refine z_iconst C dX6_ofGauge_13 ?_
    refine z_goto C (tgt := 22) dX6_ofGauge_14 (by decide) ?_
    try rw [cT.tel (g := n9) (by omega)]
    exact z_iret2 C hQ rfl dX6_ofGauge_22 ⟨zr (by first | exact (if_neg hno).symm | exact (if_pos hyq).symm), rfl, rfl, rfl, rfl, rfl⟩

set_option maxHeartbeats 4000000 in
set_option maxRecDepth 100000 in
theorem mX6_reading (l : Launch) (G : GG) {z : Nat} {K N : Nat → Nat} {I : MI} {R : MR} {x : Nat} {f h s0 v0 P : Nat → Int} {n len : Int} (hC : CI G x z K N I R f h s0 v0 P n len) (hx : x + 100 ≤ z) {gg pw : Int} (hgg : -2147483648 ≤ gg ∧ gg < 2147483648) (hpw : -2147483648 ≤ pw ∧ pw < 2147483648) : Cod l G yX6_reading (Cond.code yX6_reading cX6_reading 5 (some .int) :: wsL_law) ⟨1, 0, 0, 21⟩ [.ref x, .int (zI gg), .int (zI pw)] z K N I R (some (.int (zI (if 0 ≤ gg ∧ gg ≤ f 5 - 1 then (if ¬ f (24 + 36 * gg.toNat) = 0 ∧ (0 ≤ pw ∧ pw ≤ 2 * f 3 - 1) then f (28 + 36 * gg.toNat + pw.toNat) else -1) else -1)))) I R := by
  refine Con.of (own := RX6) (cc := cX6_reading) (maxL := 5) (ret := (some .int)) (by decide +kernel) rfl rfl (Nat.le_of_ble_eq_true rfl) (by decide) rfl ?_
  intro p e9 s mt args below meth c Q hin hQ C
  obtain ⟨⟨cx, cr0, cr1, cr2, cr3, cr4⟩, ⟨cH, ⟨cS, cN⟩, cX, cP⟩, cT, ⟨cp, cn, cm, cJ⟩, cSl, cPd⟩ := id hC
  have kn := cT.1.1
  have kh := cH.1
  obtain ⟨ho, ⟨r0, r1, r2⟩, ⟨k1, k2, k3⟩, ⟨n1, n2, n3⟩, hg⟩ := id cT.1
  obtain ⟨⟨t0, t1, t2⟩, ⟨t3, t4, t5⟩, tr, tg⟩ := id cT.2.1
  obtain ⟨b0, b1, b2, b3, b4, b5, br, bg⟩ := id cT.2.2.1
  have b4b := Ok4 cT.2.2.1
  have kp := cP.1
  refine z_aload_n C dX6_reading_0 rfl ?_
  refine z_gR C (ci := 6) (k := 0) rfl (by decide) rfl (by decide) wl_6 wq_1_16 (by decide) dX6_reading_1 (by assumption) (by assumption) ?_
  refine z_iload_n C dX6_reading_4 rfl ?_
  refine z_callVd C (ci := 4) rfl (by decide) (by first | assumption | exact hM.1) (mX4_gaugeAt l G cT.1 cT.2.1 cT.2.2.1 hgg) (cwV 1 C.2.2.2.2.1 gv6_91 rfl rfl rfl hd_X4_gaugeAt ⟨Nat.le_of_ble_eq_true rfl, Nat.le_of_ble_eq_true rfl⟩) rfl rfl (Nat.le_of_ble_eq_true rfl) dX6_reading_5 ⟨Nat.zero_le _, Nat.zero_le _⟩ ?_
  by_cases hq9 : 0 ≤ gg ∧ gg ≤ I (x + 1) 5 - 1
  · obtain ⟨n9, rfl⟩ := Int.eq_ofNat_of_zero_le (show 0 ≤ gg by omega)
    have kg9 := (hg n9 (by omega)).1
    refine z_top (y := .ref ((x + 1) + 4 + n9)) (by rw [if_pos hq9]; rfl) ?_
    refine z_astore_n C dX6_reading_8 (by decide) rfl ?_
    refine z_aload_n C dX6_reading_9 rfl ?_
    refine z_isnullR C dX6_reading_10 ?_
    have hyq : 0 ≤ (n9 : Int) ∧ (n9 : Int) ≤ f 5 - 1 := by omega
    simp only [Int.toNat_natCast] at hQ
    have hcv := cT.2.2.2 n9 (by omega)
    refine z_aload_n C dX6_reading_13 rfl ?_
    refine z_gO C (ci := 1) (k := 4) rfl (by decide) rfl (by decide) wl_1 wq_21_2 (by decide) dX6_reading_14 (by assumption) ?_
    refine z_ifnonnull C (tgt := 22) dX6_reading_17 (by decide) (fun x17 h17 => ?_) (fun h17 => ?_)
    · obtain ⟨w1, w2, w3, w4, w5, w6, w7, w8, w9⟩ : x + 100 ≤ x17 ∧ zK G z K x17 0 ∧ zK G z K (x17 + 1) 9 ∧ R x17 0 = some (x17 + 1) ∧ (N (x17 + 1) : Int) = 2 * f 3 ∧ f (24 + 36 * n9) = 1 ∧ I x17 1 = f (25 + 36 * n9) ∧ I x17 2 = f (26 + 36 * n9) ∧ ∀ k : Nat, (k : Int) < 2 * f 3 → I (x17 + 1) k = f (28 + 36 * n9 + k) := by
        rcases hcv with ⟨e, e2⟩ | ⟨c', e, e1⟩
        · rw [e] at h17; cases h17
        · rw [e] at h17; cases h17; exact e1
      have hf1 : ¬ f (24 + 36 * n9) = 0 := by omega
      refine z_aload_n C dX6_reading_22 rfl ?_
      refine z_gO C (ci := 1) (k := 4) rfl (by decide) rfl (by decide) wl_1 wq_21_2 (by decide) dX6_reading_23 (by assumption) ?_
      refine z_top (y := .ref x17) (by rw [h17]; rfl) ?_
      refine z_gR C (ci := 0) (k := 0) rfl (by decide) rfl (by decide) wl_0 wq_21_3 (by decide) dX6_reading_26 (by assumption) (by assumption) ?_
      refine z_astore C dX6_reading_29 (by decide) rfl ?_
      refine z_iload_n C dX6_reading_31 rfl ?_
      refine z_if_lt C (tgt := 42) dX6_reading_32 (by decide) (by first | omega | exact b2i_r) (fun h32 => ?_) (fun h32 => ?_)
      · have hf0 : ¬ (¬ f (24 + 36 * n9) = 0 ∧ (0 ≤ pw ∧ pw ≤ 2 * f 3 - 1)) := fun w => by have := w.2; omega
        refine z_iconst C dX6_reading_42 ?_
        refine z_goto C (tgt := 50) dX6_reading_43 (by decide) ?_
        try rw [w9 p9 (by omega)]
        exact z_iret2 C hQ rfl dX6_reading_50 ⟨zr (by first | exact (if_neg hno).symm | exact ((if_pos hyq).trans (if_neg hf0)).symm | exact ((if_pos hyq).trans (if_pos hpw)).symm), rfl, rfl, rfl, rfl, rfl⟩
      · refine z_iload_n C dX6_reading_35 rfl ?_
        refine z_aload C dX6_reading_36 rfl ?_
        refine z_alen C dX6_reading_38 (by assumption) ?_
        rw [w5]
        refine z_icmp_lt C (tgt := 46) dX6_reading_39 (by decide) (by first | omega | exact b2i_r) (by first | omega | exact b2i_r) (fun h39 => ?_) (fun h39 => ?_)
        · obtain ⟨p9, rfl⟩ := Int.eq_ofNat_of_zero_le (show 0 ≤ pw by omega)
          have hpw : ¬ f (24 + 36 * n9) = 0 ∧ (0 ≤ (p9 : Int) ∧ (p9 : Int) ≤ 2 * f 3 - 1) := ⟨hf1, by omega, by omega⟩
          simp only [Int.toNat_natCast] at hQ
          refine z_aload C dX6_reading_46 rfl ?_
          refine z_iload_n C dX6_reading_48 rfl ?_
          refine z_ialdk C (p9) dX6_reading_49 (by assumption) (by first | rfl | omega) (by omega) (by omega) ?_
          try rw [w9 p9 (by omega)]
          exact z_iret2 C hQ rfl dX6_reading_50 ⟨zr (by first | exact (if_neg hno).symm | exact ((if_pos hyq).trans (if_neg hf0)).symm | exact ((if_pos hyq).trans (if_pos hpw)).symm), rfl, rfl, rfl, rfl, rfl⟩
        · have hf0 : ¬ (¬ f (24 + 36 * n9) = 0 ∧ (0 ≤ pw ∧ pw ≤ 2 * f 3 - 1)) := fun w => by have := w.2; omega
          refine z_iconst C dX6_reading_42 ?_
          refine z_goto C (tgt := 50) dX6_reading_43 (by decide) ?_
          try rw [w9 p9 (by omega)]
          exact z_iret2 C hQ rfl dX6_reading_50 ⟨zr (by first | exact (if_neg hno).symm | exact ((if_pos hyq).trans (if_neg hf0)).symm | exact ((if_pos hyq).trans (if_pos hpw)).symm), rfl, rfl, rfl, rfl, rfl⟩
    · first
      | (have hno9 := hno; skip)
      | (have hf0 : ¬ (¬ f (24 + 36 * n9) = 0 ∧ (0 ≤ pw ∧ pw ≤ 2 * f 3 - 1)) := by
           rcases hcv with ⟨e, e2⟩ | ⟨c', e, e1⟩
           · exact fun w => w.1 e2
           · rw [e] at h17; cases h17)
      refine z_iconst C dX6_reading_20 ?_
      exact z_iret2 C hQ rfl dX6_reading_21 ⟨zr (by first | exact (if_neg hno).symm | exact ((if_pos hyq).trans (if_neg hf0)).symm | exact ((if_pos hyq).trans (if_pos hpw)).symm), rfl, rfl, rfl, rfl, rfl⟩
  · refine z_top (y := .null) (by rw [if_neg hq9]; rfl) ?_
    refine z_astoreN_n C dX6_reading_8 (by decide) rfl ?_
    refine z_aloadN_n C dX6_reading_9 rfl ?_
    refine z_isnullN C (tgt := 20) dX6_reading_10 (by decide) ?_
    have hno : ¬ (0 ≤ gg ∧ gg ≤ f 5 - 1) := by omega
    first
    | (have hno9 := hno; skip)
    | (have hf0 : ¬ (¬ f (24 + 36 * n9) = 0 ∧ (0 ≤ pw ∧ pw ≤ 2 * f 3 - 1)) := by
         rcases hcv with ⟨e, e2⟩ | ⟨c', e, e1⟩
         · exact fun w => w.1 e2
         · rw [e] at h17; cases h17)
    refine z_iconst C dX6_reading_20 ?_
    exact z_iret2 C hQ rfl dX6_reading_21 ⟨zr (by first | exact (if_neg hno).symm | exact ((if_pos hyq).trans (if_neg hf0)).symm | exact ((if_pos hyq).trans (if_pos hpw)).symm), rfl, rfl, rfl, rfl, rfl⟩

set_option maxHeartbeats 4000000 in
set_option maxRecDepth 100000 in
theorem mX6_count (l : Launch) (G : GG) {z : Nat} {K N : Nat → Nat} {I : MI} {R : MR} {x : Nat} {f h s0 v0 P : Nat → Int} {n len : Int} (hC : CI G x z K N I R f h s0 v0 P n len) (hx : x + 100 ≤ z) {wh : Int} (hwh : -2147483648 ≤ wh ∧ wh < 2147483648) : Cod l G yX6_count (Cond.code yX6_count cX6_count 2 (some .int) :: wsL_law) ⟨4, 0, 0, 84⟩ [.ref x, .int (zI wh)] z K N I R (some (.int (zI (cntA f len n wh)))) I R := by
  refine Con.of (own := RX6) (cc := cX6_count) (maxL := 2) (ret := (some .int)) (by decide +kernel) rfl rfl (Nat.le_of_ble_eq_true rfl) (by decide) rfl ?_
  intro p e9 s mt args below meth c Q hin hQ C
  obtain ⟨⟨cx, cr0, cr1, cr2, cr3, cr4⟩, ⟨cH, ⟨cS, cN⟩, cX, cP⟩, cT, ⟨cp, cn, cm, cJ⟩, cSl, cPd⟩ := id hC
  have kn := cT.1.1
  have kh := cH.1
  obtain ⟨ho, ⟨r0, r1, r2⟩, ⟨k1, k2, k3⟩, ⟨n1, n2, n3⟩, hg⟩ := id cT.1
  obtain ⟨⟨t0, t1, t2⟩, ⟨t3, t4, t5⟩, tr, tg⟩ := id cT.2.1
  obtain ⟨b0, b1, b2, b3, b4, b5, br, bg⟩ := id cT.2.2.1
  have b4b := Ok4 cT.2.2.1
  have kp := cP.1
  refine z_iload_n C dX6_count_0 rfl ?_
  by_cases hs1 : wh < 0 ∨ 11 < wh
  · refine z_tout C (tgt := 192) dX6_count_1 (by omega) hs1 (by decide) ?_
    refine z_bipush C dX6_count_192 (by decide) ?_
    exact z_iret2 C hQ rfl dX6_count_194 ⟨zr (by first | (subst hv; rfl) | (unfold cntA; (repeat' split) <;> omega)), rfl, rfl, rfl, rfl, rfl⟩
  · rcases (show wh = 0 ∨ wh = 1 ∨ wh = 2 ∨ wh = 3 ∨ wh = 4 ∨ wh = 5 ∨ wh = 6 ∨ wh = 7 ∨ wh = 8 ∨ wh = 9 ∨ wh = 10 ∨ wh = 11 by omega) with hv | hv | hv | hv | hv | hv | hv | hv | hv | hv | hv | hv
    · refine z_tin C (tgt := 64) 0 dX6_count_1 hv (by decide) (by decide) (by decide) rfl (by decide) ?_
      refine z_aload_n C dX6_count_64 rfl ?_
      refine z_gR C (ci := 6) (k := 0) rfl (by decide) rfl (by decide) wl_6 wq_1_16 (by decide) dX6_count_65 (by assumption) (by assumption) ?_
      refine z_gI C (ci := 4) (k := 3) rfl (by decide) rfl (by decide) wl_4 wq_21_12 rfl dX6_count_68 (by assumption) ?_
      rw [t3]
      exact z_iret2 C hQ rfl dX6_count_71 ⟨zr (by first | (subst hv; rfl) | (unfold cntA; (repeat' split) <;> omega)), rfl, rfl, rfl, rfl, rfl⟩
    · refine z_tin C (tgt := 72) 1 dX6_count_1 hv (by decide) (by decide) (by decide) rfl (by decide) ?_
      refine z_aload_n C dX6_count_72 rfl ?_
      refine z_gR C (ci := 6) (k := 0) rfl (by decide) rfl (by decide) wl_6 wq_1_16 (by decide) dX6_count_73 (by assumption) (by assumption) ?_
      refine z_gI C (ci := 4) (k := 5) rfl (by decide) rfl (by decide) wl_4 wq_21_13 rfl dX6_count_76 (by assumption) ?_
      rw [t5]
      exact z_iret2 C hQ rfl dX6_count_79 ⟨zr (by first | (subst hv; rfl) | (unfold cntA; (repeat' split) <;> omega)), rfl, rfl, rfl, rfl, rfl⟩
    · refine z_tin C (tgt := 80) 2 dX6_count_1 hv (by decide) (by decide) (by decide) rfl (by decide) ?_
      refine z_aload_n C dX6_count_80 rfl ?_
      refine z_gR C (ci := 6) (k := 0) rfl (by decide) rfl (by decide) wl_6 wq_1_16 (by decide) dX6_count_81 (by assumption) (by assumption) ?_
      refine z_gI C (ci := 4) (k := 4) rfl (by decide) rfl (by decide) wl_4 wq_21_14 rfl dX6_count_84 (by assumption) ?_
      rw [t4]
      exact z_iret2 C hQ rfl dX6_count_87 ⟨zr (by first | (subst hv; rfl) | (unfold cntA; (repeat' split) <;> omega)), rfl, rfl, rfl, rfl, rfl⟩
    · refine z_tin C (tgt := 88) 3 dX6_count_1 hv (by decide) (by decide) (by decide) rfl (by decide) ?_
      refine z_aload_n C dX6_count_88 rfl ?_
      refine z_gR C (ci := 6) (k := 0) rfl (by decide) rfl (by decide) wl_6 wq_1_16 (by decide) dX6_count_89 (by assumption) (by assumption) ?_
      refine z_aload_n C dX6_count_92 rfl ?_
      refine z_gR C (ci := 6) (k := 0) rfl (by decide) rfl (by decide) wl_6 wq_1_16 (by decide) dX6_count_93 (by assumption) (by assumption) ?_
      refine z_gI C (ci := 4) (k := 4) rfl (by decide) rfl (by decide) wl_4 wq_21_14 rfl dX6_count_96 (by assumption) ?_
      rw [t4]
      refine z_callVd C (ci := 4) rfl (by decide) (by first | assumption | exact hM.1) (mX4_massOf l G cT.1 cT.2.1 cT.2.2.1 (by omega)) (cwV 1 C.2.2.2.2.1 gv6_119 rfl rfl rfl hd_X4_massOf ⟨Nat.le_of_ble_eq_true rfl, Nat.le_of_ble_eq_true rfl⟩) rfl rfl (Nat.le_of_ble_eq_true rfl) dX6_count_99 ⟨Nat.zero_le _, Nat.zero_le _⟩ ?_
      exact z_iret2 C hQ rfl dX6_count_102 ⟨zr (by first | (subst hv; rfl) | (unfold cntA; (repeat' split) <;> omega)), rfl, rfl, rfl, rfl, rfl⟩
    · refine z_tin C (tgt := 103) 4 dX6_count_1 hv (by decide) (by decide) (by decide) rfl (by decide) ?_
      refine z_aload_n C dX6_count_103 rfl ?_
      refine z_gR C (ci := 6) (k := 0) rfl (by decide) rfl (by decide) wl_6 wq_1_16 (by decide) dX6_count_104 (by assumption) (by assumption) ?_
      refine z_aload_n C dX6_count_107 rfl ?_
      refine z_gR C (ci := 6) (k := 0) rfl (by decide) rfl (by decide) wl_6 wq_1_16 (by decide) dX6_count_108 (by assumption) (by assumption) ?_
      refine z_gI C (ci := 4) (k := 4) rfl (by decide) rfl (by decide) wl_4 wq_21_14 rfl dX6_count_111 (by assumption) ?_
      rw [t4]
      refine z_callVd C (ci := 4) rfl (by decide) (by first | assumption | exact hM.1) (mX4_massOf l G cT.1 cT.2.1 cT.2.2.1 (by omega)) (cwV 1 C.2.2.2.2.1 gv6_119 rfl rfl rfl hd_X4_massOf ⟨Nat.le_of_ble_eq_true rfl, Nat.le_of_ble_eq_true rfl⟩) rfl rfl (Nat.le_of_ble_eq_true rfl) dX6_count_114 ⟨Nat.zero_le _, Nat.zero_le _⟩ ?_
      refine z_aload_n C dX6_count_117 rfl ?_
      refine z_gR C (ci := 6) (k := 0) rfl (by decide) rfl (by decide) wl_6 wq_1_16 (by decide) dX6_count_118 (by assumption) (by assumption) ?_
      refine z_gR C (ci := 4) (k := 0) rfl (by decide) rfl (by decide) wl_4 wq_21_15 (by decide) dX6_count_121 (by assumption) (by assumption) ?_
      refine z_iconst C dX6_count_124 ?_
      refine z_ialdk C (0) dX6_count_125 (by assumption) (by first | rfl | omega) (by omega) (by omega) ?_
      rw [t0]
      refine z_callSd C (mX6_weightOf l G (massA_rng cT.2.2.1 _) b0) (va_cwS 2 C.2.2.2.2.1 gv6_125 rfl rfl rfl hs_X6_weightOf ⟨Nat.le_of_ble_eq_true rfl, Nat.le_of_ble_eq_true rfl⟩) rfl rfl (Nat.le_of_ble_eq_true rfl) dX6_count_126 ⟨Nat.zero_le _, Nat.zero_le _⟩ ?_
      exact z_iret2 C hQ rfl dX6_count_129 ⟨zr (by first | (subst hv; rfl) | (unfold cntA; (repeat' split) <;> omega)), rfl, rfl, rfl, rfl, rfl⟩
    · refine z_tin C (tgt := 130) 5 dX6_count_1 hv (by decide) (by decide) (by decide) rfl (by decide) ?_
      refine z_aload_n C dX6_count_130 rfl ?_
      refine z_gR C (ci := 6) (k := 0) rfl (by decide) rfl (by decide) wl_6 wq_1_16 (by decide) dX6_count_131 (by assumption) (by assumption) ?_
      refine z_callVd C (ci := 4) rfl (by decide) (by first | assumption | exact hM.1) (mX4_columnPressure l G cT.1 cT.2.1 cT.2.2.1) (cwV 0 C.2.2.2.2.1 gv6_128 rfl rfl rfl hd_X4_columnPressure ⟨Nat.le_of_ble_eq_true rfl, Nat.le_of_ble_eq_true rfl⟩) rfl rfl (Nat.le_of_ble_eq_true rfl) dX6_count_134 ⟨Nat.zero_le _, Nat.zero_le _⟩ ?_
      exact z_iret2 C hQ rfl dX6_count_137 ⟨zr (by first | (subst hv; rfl) | (unfold cntA; (repeat' split) <;> omega)), rfl, rfl, rfl, rfl, rfl⟩
    · refine z_tin C (tgt := 138) 6 dX6_count_1 hv (by decide) (by decide) (by decide) rfl (by decide) ?_
      refine z_aload_n C dX6_count_138 rfl ?_
      refine z_gR C (ci := 6) (k := 0) rfl (by decide) rfl (by decide) wl_6 wq_1_16 (by decide) dX6_count_139 (by assumption) (by assumption) ?_
      refine z_callVd C (ci := 4) rfl (by decide) (by first | assumption | exact hM.1) (mX4_countCertificates l G cT.1 cT.2.1 cT.2.2.1) (cwV 0 C.2.2.2.2.1 gv6_131 rfl rfl rfl hd_X4_countCertificates ⟨Nat.le_of_ble_eq_true rfl, Nat.le_of_ble_eq_true rfl⟩) rfl rfl (Nat.le_of_ble_eq_true rfl) dX6_count_142 ⟨Nat.zero_le _, Nat.zero_le _⟩ ?_
      rw [t5, cT.crt _ (by omega)]
      exact z_iret2 C hQ rfl dX6_count_145 ⟨zr (by first | (subst hv; rfl) | (unfold cntA; (repeat' split) <;> omega)), rfl, rfl, rfl, rfl, rfl⟩
    · refine z_tin C (tgt := 146) 7 dX6_count_1 hv (by decide) (by decide) (by decide) rfl (by decide) ?_
      refine z_aload_n C dX6_count_146 rfl ?_
      refine z_gR C (ci := 6) (k := 0) rfl (by decide) rfl (by decide) wl_6 wq_1_16 (by decide) dX6_count_147 (by assumption) (by assumption) ?_
      refine z_gR C (ci := 4) (k := 0) rfl (by decide) rfl (by decide) wl_4 wq_21_15 (by decide) dX6_count_150 (by assumption) (by assumption) ?_
      refine z_iconst C dX6_count_153 ?_
      refine z_ialdk C (0) dX6_count_154 (by assumption) (by first | rfl | omega) (by omega) (by omega) ?_
      rw [t0]
      exact z_iret2 C hQ rfl dX6_count_155 ⟨zr (by first | (subst hv; rfl) | (unfold cntA; (repeat' split) <;> omega)), rfl, rfl, rfl, rfl, rfl⟩
    · refine z_tin C (tgt := 156) 8 dX6_count_1 hv (by decide) (by decide) (by decide) rfl (by decide) ?_
      refine z_aload_n C dX6_count_156 rfl ?_
      refine z_gR C (ci := 6) (k := 0) rfl (by decide) rfl (by decide) wl_6 wq_1_16 (by decide) dX6_count_157 (by assumption) (by assumption) ?_
      refine z_gR C (ci := 4) (k := 0) rfl (by decide) rfl (by decide) wl_4 wq_21_15 (by decide) dX6_count_160 (by assumption) (by assumption) ?_
      refine z_iconst C dX6_count_163 ?_
      refine z_ialdk C (1) dX6_count_164 (by assumption) (by first | rfl | omega) (by omega) (by omega) ?_
      rw [t1]
      exact z_iret2 C hQ rfl dX6_count_165 ⟨zr (by first | (subst hv; rfl) | (unfold cntA; (repeat' split) <;> omega)), rfl, rfl, rfl, rfl, rfl⟩
    · refine z_tin C (tgt := 166) 9 dX6_count_1 hv (by decide) (by decide) (by decide) rfl (by decide) ?_
      refine z_aload_n C dX6_count_166 rfl ?_
      refine z_gR C (ci := 6) (k := 0) rfl (by decide) rfl (by decide) wl_6 wq_1_16 (by decide) dX6_count_167 (by assumption) (by assumption) ?_
      refine z_gR C (ci := 4) (k := 0) rfl (by decide) rfl (by decide) wl_4 wq_21_15 (by decide) dX6_count_170 (by assumption) (by assumption) ?_
      refine z_iconst C dX6_count_173 ?_
      refine z_ialdk C (2) dX6_count_174 (by assumption) (by first | rfl | omega) (by omega) (by omega) ?_
      rw [t2]
      exact z_iret2 C hQ rfl dX6_count_175 ⟨zr (by first | (subst hv; rfl) | (unfold cntA; (repeat' split) <;> omega)), rfl, rfl, rfl, rfl, rfl⟩
    · refine z_tin C (tgt := 176) 10 dX6_count_1 hv (by decide) (by decide) (by decide) rfl (by decide) ?_
      refine z_aload_n C dX6_count_176 rfl ?_
      refine z_gR C (ci := 6) (k := 4) rfl (by decide) rfl (by decide) wl_6 wq_2_5 (by decide) dX6_count_177 (by assumption) (by assumption) ?_
      refine z_gI C (ci := 3) (k := 2) rfl (by decide) rfl (by decide) wl_3 wq_21_16 rfl dX6_count_180 (by assumption) ?_
      rw [cPd.2.1]
      exact z_iret2 C hQ rfl dX6_count_183 ⟨zr (by first | (subst hv; rfl) | (unfold cntA; (repeat' split) <;> omega)), rfl, rfl, rfl, rfl, rfl⟩
    · refine z_tin C (tgt := 184) 11 dX6_count_1 hv (by decide) (by decide) (by decide) rfl (by decide) ?_
      refine z_aload_n C dX6_count_184 rfl ?_
      refine z_gR C (ci := 6) (k := 1) rfl (by decide) rfl (by decide) wl_6 wq_1_20 (by decide) dX6_count_185 (by assumption) (by assumption) ?_
      refine z_gI C (ci := 2) (k := 2) rfl (by decide) rfl (by decide) wl_2 wq_21_17 rfl dX6_count_188 (by assumption) ?_
      rw [cn]
      exact z_iret2 C hQ rfl dX6_count_191 ⟨zr (by first | (subst hv; rfl) | (unfold cntA; (repeat' split) <;> omega)), rfl, rfl, rfl, rfl, rfl⟩

set_option maxHeartbeats 4000000 in
set_option maxRecDepth 100000 in
theorem mX6_pressure (l : Launch) (G : GG) {z : Nat} {K N : Nat → Nat} {I : MI} {R : MR} {x : Nat} {f h s0 v0 P : Nat → Int} {n len : Int} (hC : CI G x z K N I R f h s0 v0 P n len) (hx : x + 100 ≤ z) {rg : Int} (hrg : -2147483648 ≤ rg ∧ rg < 2147483648) : Cod l G yX6_pressure (Cond.code yX6_pressure cX6_pressure 2 (some .int) :: wsL_law) ⟨3, 0, 0, 64⟩ [.ref x, .int (zI rg)] z K N I R (some (.int (zI (if rg < 0 then -2 else prsA f rg)))) I R := by
  refine Con.of (own := RX6) (cc := cX6_pressure) (maxL := 2) (ret := (some .int)) (by decide +kernel) rfl rfl (Nat.le_of_ble_eq_true rfl) (by decide) rfl ?_
  intro p e9 s mt args below meth c Q hin hQ C
  obtain ⟨⟨cx, cr0, cr1, cr2, cr3, cr4⟩, ⟨cH, ⟨cS, cN⟩, cX, cP⟩, cT, ⟨cp, cn, cm, cJ⟩, cSl, cPd⟩ := id hC
  have kn := cT.1.1
  have kh := cH.1
  obtain ⟨ho, ⟨r0, r1, r2⟩, ⟨k1, k2, k3⟩, ⟨n1, n2, n3⟩, hg⟩ := id cT.1
  obtain ⟨⟨t0, t1, t2⟩, ⟨t3, t4, t5⟩, tr, tg⟩ := id cT.2.1
  obtain ⟨b0, b1, b2, b3, b4, b5, br, bg⟩ := id cT.2.2.1
  have b4b := Ok4 cT.2.2.1
  have kp := cP.1
  refine z_iload_n C dX6_pressure_0 rfl ?_
  refine z_if_ge C (tgt := 7) dX6_pressure_1 (by decide) (by first | omega | exact b2i_r) (fun h1 => ?_) (fun h1 => ?_)
  · refine z_aload_n C dX6_pressure_7 rfl ?_
    refine z_gR C (ci := 6) (k := 0) rfl (by decide) rfl (by decide) wl_6 wq_1_16 (by decide) dX6_pressure_8 (by assumption) (by assumption) ?_
    refine z_aload_n C dX6_pressure_11 rfl ?_
    refine z_gR C (ci := 6) (k := 0) rfl (by decide) rfl (by decide) wl_6 wq_1_16 (by decide) dX6_pressure_12 (by assumption) (by assumption) ?_
    refine z_iload_n C dX6_pressure_15 rfl ?_
    refine z_callVd C (ci := 4) rfl (by decide) (by first | assumption | exact hM.1) (mX4_massOf l G cT.1 cT.2.1 cT.2.2.1 (by omega)) (cwV 1 C.2.2.2.2.1 gv6_119 rfl rfl rfl hd_X4_massOf ⟨Nat.le_of_ble_eq_true rfl, Nat.le_of_ble_eq_true rfl⟩) rfl rfl (Nat.le_of_ble_eq_true rfl) dX6_pressure_16 ⟨Nat.zero_le _, Nat.zero_le _⟩ ?_
    refine z_aload_n C dX6_pressure_19 rfl ?_
    refine z_gR C (ci := 6) (k := 0) rfl (by decide) rfl (by decide) wl_6 wq_1_16 (by decide) dX6_pressure_20 (by assumption) (by assumption) ?_
    refine z_gR C (ci := 4) (k := 0) rfl (by decide) rfl (by decide) wl_4 wq_21_15 (by decide) dX6_pressure_23 (by assumption) (by assumption) ?_
    refine z_iconst C dX6_pressure_26 ?_
    refine z_ialdk C (0) dX6_pressure_27 (by assumption) (by first | rfl | omega) (by omega) (by omega) ?_
    rw [t0]
    refine z_callVd C (ci := 4) rfl (by decide) (by first | assumption | exact hM.1) (mX4_pressureOf l G cT.1 cT.2.1 cT.2.2.1 (massA_rng cT.2.2.1 _) b0) (cwV 2 C.2.2.2.2.1 gv6_140 rfl rfl rfl hd_X4_pressureOf ⟨Nat.le_of_ble_eq_true rfl, Nat.le_of_ble_eq_true rfl⟩) rfl rfl (Nat.le_of_ble_eq_true rfl) dX6_pressure_28 ⟨Nat.zero_le _, Nat.zero_le _⟩ ?_
    exact z_iret2 C hQ rfl dX6_pressure_31 ⟨zr (by first | (rw [if_pos (by omega)]; done) | (rw [if_neg (by omega)]; rfl)), rfl, rfl, rfl, rfl, rfl⟩
  · refine z_bipush C dX6_pressure_4 (by decide) ?_
    exact z_iret2 C hQ rfl dX6_pressure_6 ⟨zr (by first | (rw [if_pos (by omega)]; done) | (rw [if_neg (by omega)]; rfl)), rfl, rfl, rfl, rfl, rfl⟩

set_option maxHeartbeats 4000000 in
set_option maxRecDepth 100000 in
theorem mX6_nearest (l : Launch) (G : GG) {z : Nat} {K N : Nat → Nat} {I : MI} {R : MR} {x : Nat} {f h s0 v0 P : Nat → Int} {n len : Int} (hC : CI G x z K N I R f h s0 v0 P n len) (hx : x + 100 ≤ z) {pr wh : Int} (hpr : -2147483648 ≤ pr ∧ pr < 2147483648) (hwh : -2147483648 ≤ wh ∧ wh < 2147483648) : Cod l G yX6_nearest (Cond.code yX6_nearest cX6_nearest 4 (some .int) :: wsL_law) ⟨4, 0, 0, 90⟩ [.ref x, .int (zI pr), .int (zI wh)] z K N I R (some (.int (zI (if 0 ≤ pr ∧ (0 ≤ wh ∧ wh ≤ 1) then (if wh = 0 then (nrA f pr (2 ^ (f 3).toNat - 1 : Int).toNat).1 else prsA f (nrA f pr (2 ^ (f 3).toNat - 1 : Int).toNat).1) else -2)))) I R := by
  refine Con.of (own := RX6) (cc := cX6_nearest) (maxL := 4) (ret := (some .int)) (by decide +kernel) rfl rfl (Nat.le_of_ble_eq_true rfl) (by decide) rfl ?_
  intro p e9 s mt args below meth c Q hin hQ C
  obtain ⟨⟨cx, cr0, cr1, cr2, cr3, cr4⟩, ⟨cH, ⟨cS, cN⟩, cX, cP⟩, cT, ⟨cp, cn, cm, cJ⟩, cSl, cPd⟩ := id hC
  have kn := cT.1.1
  have kh := cH.1
  obtain ⟨ho, ⟨r0, r1, r2⟩, ⟨k1, k2, k3⟩, ⟨n1, n2, n3⟩, hg⟩ := id cT.1
  obtain ⟨⟨t0, t1, t2⟩, ⟨t3, t4, t5⟩, tr, tg⟩ := id cT.2.1
  obtain ⟨b0, b1, b2, b3, b4, b5, br, bg⟩ := id cT.2.2.1
  have b4b := Ok4 cT.2.2.1
  have kp := cP.1
  have hp14 : (2 : Int) ^ (f 3).toNat ≤ 16384 := pow_le (b := 14) (by omega)
  have hp0 := pow_pos2 (f 3).toNat
  refine z_iload_n C dX6_nearest_0 rfl ?_
  refine z_if_lt C (tgt := 13) dX6_nearest_1 (by decide) (by first | omega | exact b2i_r) (fun h1 => ?_) (fun h1 => ?_)
  · refine z_bipush C dX6_nearest_13 (by decide) ?_
    exact z_iret2 C hQ rfl dX6_nearest_15 ⟨zr (by first | (rw [if_neg (by omega)]; done) | (rw [if_pos (by omega), if_pos (by omega)]; done) | (rw [if_pos (by omega), if_neg (by omega)]; rfl)), rfl, rfl, rfl, rfl, rfl⟩
  · refine z_iload_n C dX6_nearest_4 rfl ?_
    refine z_if_lt C (tgt := 13) dX6_nearest_5 (by decide) (by first | omega | exact b2i_r) (fun h5 => ?_) (fun h5 => ?_)
    · refine z_bipush C dX6_nearest_13 (by decide) ?_
      exact z_iret2 C hQ rfl dX6_nearest_15 ⟨zr (by first | (rw [if_neg (by omega)]; done) | (rw [if_pos (by omega), if_pos (by omega)]; done) | (rw [if_pos (by omega), if_neg (by omega)]; rfl)), rfl, rfl, rfl, rfl, rfl⟩
    · refine z_iload_n C dX6_nearest_8 rfl ?_
      refine z_iconst C dX6_nearest_9 ?_
      refine z_icmp_le C (tgt := 16) dX6_nearest_10 (by decide) (by first | omega | exact b2i_r) (by first | omega | exact b2i_r) (fun h10 => ?_) (fun h10 => ?_)
      · refine z_aload_n C dX6_nearest_16 rfl ?_
        refine z_gR C (ci := 6) (k := 0) rfl (by decide) rfl (by decide) wl_6 wq_1_16 (by decide) dX6_nearest_17 (by assumption) (by assumption) ?_
        refine z_iload_n C dX6_nearest_20 rfl ?_
        refine z_callVd C (ci := 4) rfl (by decide) (by first | assumption | exact hM.1) (mX4_nearestTo l G cT.1 cT.2.1 cT.2.2.1 (by omega)) (cwV 1 C.2.2.2.2.1 gv6_143 rfl rfl rfl hd_X4_nearestTo ⟨Nat.le_of_ble_eq_true rfl, Nat.le_of_ble_eq_true rfl⟩) rfl rfl (Nat.le_of_ble_eq_true rfl) dX6_nearest_21 ⟨Nat.zero_le _, Nat.zero_le _⟩ ?_
        rw [nrC_nrA cT.2.2.1 (by omega)]
        have hnr := nrA_rng cT.2.2.1 (w := pr) (by omega) (2 ^ (f 3).toNat - 1 : Int).toNat
        refine z_istore_n C dX6_nearest_24 (by decide) rfl ?_
        refine z_iload_n C dX6_nearest_25 rfl ?_
        refine z_if_ne C (tgt := 33) dX6_nearest_26 (by decide) (by first | omega | exact b2i_r) (fun h26 => ?_) (fun h26 => ?_)
        · refine z_aload_n C dX6_nearest_33 rfl ?_
          refine z_gR C (ci := 6) (k := 0) rfl (by decide) rfl (by decide) wl_6 wq_1_16 (by decide) dX6_nearest_34 (by assumption) (by assumption) ?_
          refine z_aload_n C dX6_nearest_37 rfl ?_
          refine z_gR C (ci := 6) (k := 0) rfl (by decide) rfl (by decide) wl_6 wq_1_16 (by decide) dX6_nearest_38 (by assumption) (by assumption) ?_
          refine z_iload_n C dX6_nearest_41 rfl ?_
          refine z_callVd C (ci := 4) rfl (by decide) (by first | assumption | exact hM.1) (mX4_massOf l G cT.1 cT.2.1 cT.2.2.1 (by omega)) (cwV 1 C.2.2.2.2.1 gv6_119 rfl rfl rfl hd_X4_massOf ⟨Nat.le_of_ble_eq_true rfl, Nat.le_of_ble_eq_true rfl⟩) rfl rfl (Nat.le_of_ble_eq_true rfl) dX6_nearest_42 ⟨Nat.zero_le _, Nat.zero_le _⟩ ?_
          refine z_aload_n C dX6_nearest_45 rfl ?_
          refine z_gR C (ci := 6) (k := 0) rfl (by decide) rfl (by decide) wl_6 wq_1_16 (by decide) dX6_nearest_46 (by assumption) (by assumption) ?_
          refine z_gR C (ci := 4) (k := 0) rfl (by decide) rfl (by decide) wl_4 wq_21_15 (by decide) dX6_nearest_49 (by assumption) (by assumption) ?_
          refine z_iconst C dX6_nearest_52 ?_
          refine z_ialdk C (0) dX6_nearest_53 (by assumption) (by first | rfl | omega) (by omega) (by omega) ?_
          rw [t0]
          refine z_callVd C (ci := 4) rfl (by decide) (by first | assumption | exact hM.1) (mX4_pressureOf l G cT.1 cT.2.1 cT.2.2.1 (massA_rng cT.2.2.1 _) b0) (cwV 2 C.2.2.2.2.1 gv6_140 rfl rfl rfl hd_X4_pressureOf ⟨Nat.le_of_ble_eq_true rfl, Nat.le_of_ble_eq_true rfl⟩) rfl rfl (Nat.le_of_ble_eq_true rfl) dX6_nearest_54 ⟨Nat.zero_le _, Nat.zero_le _⟩ ?_
          exact z_iret2 C hQ rfl dX6_nearest_57 ⟨zr (by first | (rw [if_neg (by omega)]; done) | (rw [if_pos (by omega), if_pos (by omega)]; done) | (rw [if_pos (by omega), if_neg (by omega)]; rfl)), rfl, rfl, rfl, rfl, rfl⟩
        · refine z_iload_n C dX6_nearest_29 rfl ?_
          refine z_goto C (tgt := 57) dX6_nearest_30 (by decide) ?_
          exact z_iret2 C hQ rfl dX6_nearest_57 ⟨zr (by first | (rw [if_neg (by omega)]; done) | (rw [if_pos (by omega), if_pos (by omega)]; done) | (rw [if_pos (by omega), if_neg (by omega)]; rfl)), rfl, rfl, rfl, rfl, rfl⟩
      · refine z_bipush C dX6_nearest_13 (by decide) ?_
        exact z_iret2 C hQ rfl dX6_nearest_15 ⟨zr (by first | (rw [if_neg (by omega)]; done) | (rw [if_pos (by omega), if_pos (by omega)]; done) | (rw [if_pos (by omega), if_neg (by omega)]; rfl)), rfl, rfl, rfl, rfl, rfl⟩

set_option maxHeartbeats 4000000 in
set_option maxRecDepth 100000 in
theorem mX6_airCosts (l : Launch) (G : GG) {z : Nat} {K N : Nat → Nat} {I : MI} {R : MR} {x : Nat} {f h s0 v0 P : Nat → Int} {n len : Int} (hC : CI G x z K N I R f h s0 v0 P n len) (hx : x + 100 ≤ z) {ar : Int} (har : -2147483648 ≤ ar ∧ ar < 2147483648) : Cod l G yX6_airCosts (Cond.code yX6_airCosts cX6_airCosts 2 (some .int) :: wsL_law) ⟨4, 0, 0, 84⟩ [.ref x, .int (zI ar)] z K N I R (some (.int (zI (if 0 ≤ ar ∧ ar ≤ 9 then prs (massA f (f 4)) ar (f 1) - prs (massA f (f 4)) (f 0) (f 1) + 10000 else -2)))) I R := by
  refine Con.of (own := RX6) (cc := cX6_airCosts) (maxL := 2) (ret := (some .int)) (by decide +kernel) rfl rfl (Nat.le_of_ble_eq_true rfl) (by decide) rfl ?_
  intro p e9 s mt args below meth c Q hin hQ C
  obtain ⟨⟨cx, cr0, cr1, cr2, cr3, cr4⟩, ⟨cH, ⟨cS, cN⟩, cX, cP⟩, cT, ⟨cp, cn, cm, cJ⟩, cSl, cPd⟩ := id hC
  have kn := cT.1.1
  have kh := cH.1
  obtain ⟨ho, ⟨r0, r1, r2⟩, ⟨k1, k2, k3⟩, ⟨n1, n2, n3⟩, hg⟩ := id cT.1
  obtain ⟨⟨t0, t1, t2⟩, ⟨t3, t4, t5⟩, tr, tg⟩ := id cT.2.1
  obtain ⟨b0, b1, b2, b3, b4, b5, br, bg⟩ := id cT.2.2.1
  have b4b := Ok4 cT.2.2.1
  have kp := cP.1
  refine z_iload_n C dX6_airCosts_0 rfl ?_
  refine z_gets0 C (f := zF1) C.2.2.2.2.2.2.2.1.2.1.2.1 (Or.inl (C.2.2.2.2.1 _ wq_25_2)) dX6_airCosts_1 (fun tq1 hq1 => ?_)
  refine z_iconst C dX6_airCosts_4 ?_
  refine z_sald C hq1 dX6_airCosts_5 (by omega) ?_
  rw [show zF1 (0 : Int).toNat = 0 from rfl]
  refine z_icmp_lt C (tgt := 18) dX6_airCosts_6 (by decide) (by first | omega | exact b2i_r) (by first | omega | exact b2i_r) (fun h6 => ?_) (fun h6 => ?_)
  · refine z_bipush C dX6_airCosts_18 (by decide) ?_
    exact z_iret2 C hQ rfl dX6_airCosts_20 ⟨zr (by first | (rw [if_neg (by omega)]; done) | (rw [if_pos (by omega)]; rfl)), rfl, rfl, rfl, rfl, rfl⟩
  · refine z_iload_n C dX6_airCosts_9 rfl ?_
    refine z_gets0 C (f := zF2) C.2.2.2.2.2.2.2.1.2.1.2.2 (Or.inl (C.2.2.2.2.1 _ wq_25_3)) dX6_airCosts_10 (fun tq10 hq10 => ?_)
    refine z_iconst C dX6_airCosts_13 ?_
    refine z_sald C hq10 dX6_airCosts_14 (by omega) ?_
    rw [show zF2 (0 : Int).toNat = 9 from rfl]
    refine z_icmp_le C (tgt := 21) dX6_airCosts_15 (by decide) (by first | omega | exact b2i_r) (by first | omega | exact b2i_r) (fun h15 => ?_) (fun h15 => ?_)
    · refine z_aload_n C dX6_airCosts_21 rfl ?_
      refine z_gR C (ci := 6) (k := 0) rfl (by decide) rfl (by decide) wl_6 wq_1_16 (by decide) dX6_airCosts_22 (by assumption) (by assumption) ?_
      refine z_aload_n C dX6_airCosts_25 rfl ?_
      refine z_gR C (ci := 6) (k := 0) rfl (by decide) rfl (by decide) wl_6 wq_1_16 (by decide) dX6_airCosts_26 (by assumption) (by assumption) ?_
      refine z_aload_n C dX6_airCosts_29 rfl ?_
      refine z_gR C (ci := 6) (k := 0) rfl (by decide) rfl (by decide) wl_6 wq_1_16 (by decide) dX6_airCosts_30 (by assumption) (by assumption) ?_
      refine z_gI C (ci := 4) (k := 4) rfl (by decide) rfl (by decide) wl_4 wq_21_14 rfl dX6_airCosts_33 (by assumption) ?_
      rw [t4]
      refine z_callVd C (ci := 4) rfl (by decide) (by first | assumption | exact hM.1) (mX4_massOf l G cT.1 cT.2.1 cT.2.2.1 (by omega)) (cwV 1 C.2.2.2.2.1 gv6_119 rfl rfl rfl hd_X4_massOf ⟨Nat.le_of_ble_eq_true rfl, Nat.le_of_ble_eq_true rfl⟩) rfl rfl (Nat.le_of_ble_eq_true rfl) dX6_airCosts_36 ⟨Nat.zero_le _, Nat.zero_le _⟩ ?_
      refine z_iload_n C dX6_airCosts_39 rfl ?_
      refine z_callVd C (ci := 4) rfl (by decide) (by first | assumption | exact hM.1) (mX4_pressureOf l G cT.1 cT.2.1 cT.2.2.1 (massA_rng cT.2.2.1 _) (by omega)) (cwV 2 C.2.2.2.2.1 gv6_140 rfl rfl rfl hd_X4_pressureOf ⟨Nat.le_of_ble_eq_true rfl, Nat.le_of_ble_eq_true rfl⟩) rfl rfl (Nat.le_of_ble_eq_true rfl) dX6_airCosts_40 ⟨Nat.zero_le _, Nat.zero_le _⟩ ?_
      refine z_aload_n C dX6_airCosts_43 rfl ?_
      refine z_gR C (ci := 6) (k := 0) rfl (by decide) rfl (by decide) wl_6 wq_1_16 (by decide) dX6_airCosts_44 (by assumption) (by assumption) ?_
      refine z_callVd C (ci := 4) rfl (by decide) (by first | assumption | exact hM.1) (mX4_columnPressure l G cT.1 cT.2.1 cT.2.2.1) (cwV 0 C.2.2.2.2.1 gv6_128 rfl rfl rfl hd_X4_columnPressure ⟨Nat.le_of_ble_eq_true rfl, Nat.le_of_ble_eq_true rfl⟩) rfl rfl (Nat.le_of_ble_eq_true rfl) dX6_airCosts_47 ⟨Nat.zero_le _, Nat.zero_le _⟩ ?_
      refine z_isub C dX6_airCosts_50 ?_
      refine z_sipush C dX6_airCosts_51 (by decide) ?_
      refine z_iadd C dX6_airCosts_54 ?_
      exact z_iret2 C hQ rfl dX6_airCosts_55 ⟨zr (by first | (rw [if_neg (by omega)]; done) | (rw [if_pos (by omega)]; rfl)), rfl, rfl, rfl, rfl, rfl⟩
    · refine z_bipush C dX6_airCosts_18 (by decide) ?_
      exact z_iret2 C hQ rfl dX6_airCosts_20 ⟨zr (by first | (rw [if_neg (by omega)]; done) | (rw [if_pos (by omega)]; rfl)), rfl, rfl, rfl, rfl, rfl⟩

