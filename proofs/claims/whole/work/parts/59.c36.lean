/-! the pad in the class -/
theorem PM_s (I : MI) (b : Nat) : PM I b (I (b + 1)) (I b) = I := by
  funext a
  by_cases h0 : a = b
  · subst h0; exact PM_b _ _ _ _
  · by_cases h1 : a = b + 1
    · subst h1; exact PM_1 _ _ _ _
    · exact PM_n _ _ _ _ _ h0 h1
theorem CI.padc {G : GG} {x z : Nat} {K N : Nat → Nat} {I : MI} {R : MR} {f h s v P : Nat → Int} {n len : Int} (c : CI G x z K N I R f h s v P n len) {I' : MI} {P' : Nat → Int} {len' : Int} (hI : ∀ a : Nat, (a < x + 89 ∨ x + 92 ≤ a) → I' a = I a) (hp : POk (I' (x + 91)) len' ∧ I' (x + 89) 2 = len' ∧ I' (x + 91) = P') : CPn G x z K N I R f h s v P' n len' z K N I' R := by
  obtain ⟨a, b, c0, ⟨d0, d1, d2, d3⟩, ⟨e0, e1⟩, -⟩ := c
  have ck : CK (x + 100) z K N I R z K N I' R := CK.lo (Nat.le_refl z) (fun _ _ => ⟨rfl, rfl⟩) fun w h1 h2 => ⟨hI w (by omega), rfl⟩
  have e11 := hI (x + 11) (by omega)
  refine ⟨⟨Nat.le_refl z, fun _ _ => ⟨rfl, rfl⟩, fun w h1 h2 => ⟨hI w (by omega), rfl⟩⟩, a, b, c0.keep ck (fun w h1 h2 => ⟨hI w (by omega), rfl⟩), ⟨by rw [e11]; exact d0, by rw [e11]; exact d1, d2, fun j hj => ?_⟩, ⟨fun k hk => ?_, e1⟩, hp⟩
  · rw [e11]
    have hh := hiA_in x (I (x + 11) 1) n j
    exact (d3 j hj).keep ck (fun w h1 h2 => ⟨hI w (by omega), rfl⟩)
  · rcases e0 k hk with w | ⟨sl, w1, w2, w3, w4⟩
    · exact Or.inl w
    · have wz := (w4.1.2.2.2.2 5 (by omega)).1.2.1
      exact Or.inr ⟨sl, w1, w2, w3, w4.keep ck fun y h1 h2 => ⟨hI y (by omega), rfl⟩⟩
def padP (P : Nat → Int) (len : Int) (n : Nat) : Nat → Int := if ¬ putBad n ∧ len + (putK n : Int) ≤ 80 then (fun a => if len.toNat ≤ a ∧ a < len.toNat + (putK n - 0) then (by8 n (putK n - 1 - (a - len.toNat)) : Int) else P a) else P
def padL (len : Int) (n : Nat) : Int := if ¬ putBad n ∧ len + (putK n : Int) ≤ 80 then len + ((putK n - 0 : Nat) : Int) else len
theorem okB_at {n : Nat} : ∀ k : Nat, ¬ okB n k = 0 → ∀ i : Nat, i < k → 33 ≤ (by8 n i : Int) ∧ (by8 n i : Int) ≤ 126
  | 0, _, i, hi => absurd hi (by omega)
  | k + 1, h, i, hi => by
    rw [okB_s] at h
    by_cases c : ¬ okB n k = 0 ∧ 33 ≤ (by8 n k : Int) ∧ (by8 n k : Int) ≤ 126
    · by_cases e : i = k
      · subst e; exact c.2
      · exact okB_at k c.1 i (by omega)
    · rw [if_neg c] at h; exact absurd rfl h
theorem CI.put {G : GG} {x z : Nat} {K N : Nat → Nat} {I : MI} {R : MR} {f h s v P : Nat → Int} {n len : Int} (c : CI G x z K N I R f h s v P n len) (m : Nat) : CPn G x z K N I R f h s v (padP P len m) n (padL len m) z K N (if ¬ putBad m ∧ I (x + 89) 2 + (putK m : Int) ≤ 80 then apM I (x + 89) (I (x + 89 + 1)) (I (x + 89)) m (putK m) 0 else PM I (x + 89) (I (x + 89 + 1)) (I (x + 89))) R := by
  obtain ⟨p1, p2, p3⟩ := c.2.2.2.2.2
  rw [p2, PM_s]
  unfold padP padL
  by_cases hc : ¬ putBad m ∧ len + (putK m : Int) ≤ 80
  · rw [if_pos hc, if_pos hc, if_pos hc]
    have e91 : apM I (x + 89) (I (x + 89 + 1)) (I (x + 89)) m (putK m) 0 (x + 91) = fun a => if len.toNat ≤ a ∧ a < len.toNat + (putK m - 0) then (by8 m (putK m - 1 - (a - len.toNat)) : Int) else P a := by
      unfold apM
      rw [show x + 91 = x + 89 + 2 from rfl, va_up_s]
      funext a
      unfold apR
      rw [p2, show I (x + 89 + 2) = P from p3]
    have e89 : apM I (x + 89) (I (x + 89 + 1)) (I (x + 89)) m (putK m) 0 (x + 89) 2 = len + ((putK m - 0 : Nat) : Int) := by rw [apM_b, p2]
    refine c.padc (fun a ha => ?_) ⟨⟨by have := p1.1; omega, fun i hi => ?_⟩, e89, e91⟩
    · unfold apM
      rw [va_up_n (by omega), PM_n _ _ _ _ _ (by omega) (by omega)]
    · rw [e91]
      show 0 ≤ (if _ then _ else P i) ∧ (if _ then _ else P i) ≤ 126
      have hok : ¬ okB m (putK m) = 0 := fun z => hc.1 (Or.inr (Or.inl z))
      split
      · have := okB_at (putK m) hok (putK m - 1 - (i - len.toNat)) (by omega)
        omega
      · rw [← p3]; exact p1.2 i hi
  · rw [if_neg hc, if_neg hc, if_neg hc]
    exact ⟨FrM.rfl, c⟩
theorem rn_2 (P g : Nat → Int) : rnG P g 2 = g 2 := by
  unfold rnG
  split
  · exact st1_n (by omega)
  · rfl
theorem cm_2 (P g : Nat → Int) : cmg P g 2 = g 2 := st1_n (by omega)
theorem rv_2 (P g : Nat → Int) : rvG P g 2 = g 2 := by rw [rvG_rn, rn_2]; exact st1_n (by omega)
theorem ga_2 (P g : Nat → Int) : gaG P g 2 = g 2 := by
  unfold gaG
  (repeat' split) <;> simp only [rn_2, cm_2, rv_2]
theorem se_2 (P g : Nat → Int) : seG P g 2 = g 2 := by
  unfold seG
  split
  · exact st1_n (by omega)
  · rfl
theorem g3_2 (P g : Nat → Int) : g3F P g 2 = g 2 := by unfold g3F; rw [st1_n (by omega), st1_n (by omega)]
theorem or_2 (P g : Nat → Int) : orG P g 2 = g 2 := by
  have e : st1 g 1 (sgV P g (g 4)) 2 = g 2 := st1_n (by omega)
  have e2 : st1 (g3F P g) 4 (g3F P g 4 + 1) 2 = g 2 := by rw [st1_n (by omega), g3_2]
  unfold orG
  (repeat' split) <;> first | exact e | exact e2 | (rw [rn_2, g3_2]; done) | (rw [ga_2, g3_2]; done) | exact g3_2 _ _
theorem no_2 (P g : Nat → Int) : noG P g 2 = g 2 := by
  unfold noG
  split
  · exact se_2 _ _
  · rw [or_2, se_2]
theorem fcL_2 (P : Nat → Int) : ∀ (q : Nat) (y : Int × (Nat → Int) × (Nat → Int)), (fcL P q y).2.2 2 = y.2.2 2
  | 0, _ => rfl
  | q + 1, y => by
    rw [fcL_s]
    split
    · rw [fcL_2 P q]; exact no_2 _ _
    · rfl
theorem fcE_2 (P nu g : Nat → Int) : (fcE P nu g).2.2 2 = g 2 := by
  unfold fcE
  rw [fcL_2]
  show noG P (st1 g 4 0) 2 = g 2
  rw [no_2, st1_n (by omega)]
theorem ffV_6 {P f g : Nat → Int} (h : f 6 = g 6) : ffV P f = ffV P g := Sm.e_ffL 82 _ _ ⟨by rw [st1_n (by omega), st1_n (by omega)]; exact h, by rw [st1_s, st1_s]⟩
/-- pad fields of the class may change, but its length and signs -/
theorem CI.pm {G : GG} {x z : Nat} {K N : Nat → Nat} {I : MI} {R : MR} {f h s v P : Nat → Int} {n len : Int} (c : CI G x z K N I R f h s v P n len) {nu g : Nat → Int} (hg : g 2 = len) : CPn G x z K N I R f h s v P n len z K N (PM I (x + 89) nu g) R := by
  obtain ⟨p1, p2, p3⟩ := c.2.2.2.2.2
  have e : PM I (x + 89) nu g (x + 91) = I (x + 91) := PM_n _ _ _ _ _ (by omega) (by omega)
  exact c.padc (fun a ha => PM_n _ _ _ _ _ (by omega) (by omega)) ⟨by rw [e]; exact p1, by rw [PM_b]; exact hg, by rw [e]; exact p3⟩
set_option maxHeartbeats 4000000 in
set_option maxRecDepth 100000 in
theorem mX6_put (l : Launch) (G : GG) {z : Nat} {K N : Nat → Nat} {I : MI} {R : MR} {x : Nat} {f h s0 v0 P : Nat → Int} {n len : Int} (hC : CI G x z K N I R f h s0 v0 P n len) (hx : x + 100 ≤ z) {m9 : Nat} (hm9 : m9 < 2 ^ 64) : Con l G yX6_put (Cond.code yX6_put cX6_put 3 (some .int) :: wsL_law) ⟨2, 0, 0, 48⟩ 0 0 [.ref x, .long (zU m9)] z K N I R (fun r z' K' N' I' R' => r = some (.int (zI (if putBad m9 then -2 else if 80 < len + (putK m9 : Int) then -4 else len + (putK m9 : Int)))) ∧ CPn G x z K N I R f h s0 v0 (padP P len m9) n (padL len m9) z' K' N' I' R') := by
  refine Con.of (own := RX6) (cc := cX6_put) (maxL := 3) (ret := (some .int)) (by decide +kernel) rfl rfl (Nat.le_of_ble_eq_true rfl) (by decide) rfl ?_
  intro p e9 s mt args below meth c Q hin hQ C
  obtain ⟨⟨cx, cr0, cr1, cr2, cr3, cr4⟩, ⟨cH, ⟨cS, cN⟩, cX, cP⟩, cT, ⟨cp, cn, cm, cJ⟩, cSl, cPd⟩ := id hC
  have kn := cT.1.1
  have kh := cH.1
  have kp := cP.1
  have hPk : POk (I (x + 89 + 2)) (I (x + 89) 2) := by rw [cPd.2.1]; exact cPd.1
  refine z_aload_n C dX6_put_0 rfl ?_
  refine z_gR C (ci := 6) (k := 4) rfl (by decide) rfl (by decide) wl_6 wq_2_5 (by decide) dX6_put_1 (by assumption) (by assumption) ?_
  refine z_lload_n C dX6_put_4 rfl ?_
  refine z_mem (PM_s I (x + 89)).symm rfl ?_
  refine z_callVd C (ci := 3) rfl (by decide) (by assumption) (nX3_append l G cP hPk hm9) (cwV 1 C.2.2.2.2.1 gv6_170 rfl rfl rfl hd_X3_append ⟨Nat.le_of_ble_eq_true rfl, Nat.le_of_ble_eq_true rfl⟩) rfl rfl (Nat.le_of_ble_eq_true rfl) dX6_put_5 ⟨Nat.zero_le _, Nat.zero_le _⟩ ?_
  exact z_iret2 C hQ rfl dX6_put_8 ⟨zr (by rw [cPd.2.1]), hC.put m9⟩

set_option maxHeartbeats 4000000 in
set_option maxRecDepth 100000 in
theorem mX6_wipe (l : Launch) (G : GG) {z : Nat} {K N : Nat → Nat} {I : MI} {R : MR} {x : Nat} {f h s0 v0 P : Nat → Int} {n len : Int} (hC : CI G x z K N I R f h s0 v0 P n len) (hx : x + 100 ≤ z) : Con l G yX6_wipe (Cond.code yX6_wipe cX6_wipe 1 (some .int) :: wsL_law) ⟨1, 0, 0, 21⟩ 0 0 [.ref x] z K N I R (fun r z' K' N' I' R' => r = some (.int (zI len)) ∧ CPn G x z K N I R f h s0 v0 P n 0 z' K' N' I' R') := by
  refine Con.of (own := RX6) (cc := cX6_wipe) (maxL := 1) (ret := (some .int)) (by decide +kernel) rfl rfl (Nat.le_of_ble_eq_true rfl) (by decide) rfl ?_
  intro p e9 s mt args below meth c Q hin hQ C
  obtain ⟨⟨cx, cr0, cr1, cr2, cr3, cr4⟩, ⟨cH, ⟨cS, cN⟩, cX, cP⟩, cT, ⟨cp, cn, cm, cJ⟩, cSl, cPd⟩ := id hC
  have kn := cT.1.1
  have kh := cH.1
  have kp := cP.1
  have hPk : POk (I (x + 89 + 2)) (I (x + 89) 2) := by rw [cPd.2.1]; exact cPd.1
  refine z_aload_n C dX6_wipe_0 rfl ?_
  refine z_gR C (ci := 6) (k := 4) rfl (by decide) rfl (by decide) wl_6 wq_2_5 (by decide) dX6_wipe_1 (by assumption) (by assumption) ?_
  refine z_mem (PM_s I (x + 89)).symm rfl ?_
  refine z_callVd C (ci := 3) rfl (by decide) (by assumption) (nX3_clear l G cP hPk) (cwV 0 C.2.2.2.2.1 gv6_174 rfl rfl rfl hd_X3_clear ⟨Nat.le_of_ble_eq_true rfl, Nat.le_of_ble_eq_true rfl⟩) rfl rfl (Nat.le_of_ble_eq_true rfl) dX6_wipe_4 ⟨Nat.zero_le _, Nat.zero_le _⟩ ?_
  exact z_iret2 C hQ rfl dX6_wipe_7 ⟨zr cPd.2.1, hC.padc (fun a ha => PM_n _ _ _ _ _ (by omega) (by omega)) ⟨⟨by omega, by rw [PM_n _ _ _ _ _ (by omega) (by omega)]; exact cPd.1.2⟩, by rw [PM_b, st1_s], by rw [PM_n _ _ _ _ _ (by omega) (by omega)]; exact cPd.2.2⟩⟩

set_option maxHeartbeats 4000000 in
set_option maxRecDepth 100000 in
theorem mX6_fault (l : Launch) (G : GG) {z : Nat} {K N : Nat → Nat} {I : MI} {R : MR} {x : Nat} {f h s0 v0 P : Nat → Int} {n len : Int} (hC : CI G x z K N I R f h s0 v0 P n len) (hx : x + 100 ≤ z) : Con l G yX6_fault (Cond.code yX6_fault cX6_fault 1 (some .int) :: wsL_law) ⟨5, 0, 0, 107⟩ 0 0 [.ref x] z K N I R (fun r z' K' N' I' R' => r = some (.int (zI (ffV P (fun _ => len)))) ∧ CPn G x z K N I R f h s0 v0 P n len z' K' N' I' R') := by
  refine Con.of (own := RX6) (cc := cX6_fault) (maxL := 1) (ret := (some .int)) (by decide +kernel) rfl rfl (Nat.le_of_ble_eq_true rfl) (by decide) rfl ?_
  intro p e9 s mt args below meth c Q hin hQ C
  obtain ⟨⟨cx, cr0, cr1, cr2, cr3, cr4⟩, ⟨cH, ⟨cS, cN⟩, cX, cP⟩, cT, ⟨cp, cn, cm, cJ⟩, cSl, cPd⟩ := id hC
  have kn := cT.1.1
  have kh := cH.1
  have kp := cP.1
  have hPk : POk (I (x + 89 + 2)) (I (x + 89) 2) := by rw [cPd.2.1]; exact cPd.1
  refine z_aload_n C dX6_fault_0 rfl ?_
  refine z_gR C (ci := 6) (k := 4) rfl (by decide) rfl (by decide) wl_6 wq_2_5 (by decide) dX6_fault_1 (by assumption) (by assumption) ?_
  refine z_mem (PM_s I (x + 89)).symm rfl ?_
  refine z_callVd C (ci := 3) rfl (by decide) (by assumption) (nX3_findFault l G cP hPk) (cwV 0 C.2.2.2.2.1 gv6_177 rfl rfl rfl hd_X3_findFault ⟨Nat.le_of_ble_eq_true rfl, Nat.le_of_ble_eq_true rfl⟩) rfl rfl (Nat.le_of_ble_eq_true rfl) dX6_fault_4 ⟨Nat.zero_le _, Nat.zero_le _⟩ ?_
  exact z_iret2 C hQ rfl dX6_fault_7 ⟨zr (show fcA (fcE (I (x + 89 + 2)) (I (x + 89 + 1)) (I (x + 89))) = ffV P (fun _ => len) from by rw [fcE_ffV hPk (f := fun _ => len) cPd.2.1.symm, show I (x + 89 + 2) = P from cPd.2.2]), hC.pm (by rw [fcE_2]; exact cPd.2.1)⟩

/-- an order carried out: the answer, the row -/
def oA (f : Nat → Int) (w n0 n1 n2 : Int) : Int := if w = 109 then aRin f n0 else if w = 103 then aGau f n0 n1 n2 else if w = 43 then aMov 0 f n0 else if w = 45 then aMov 1 f n0 else if w = 97 then aSet f 0 n0 else ceV f n0
def oF (f : Nat → Int) (w n0 n1 n2 : Int) : Nat → Int := if w = 109 then fRin f n0 else if w = 103 then fGau f n0 n1 n2 else if w = 43 then fMov 0 f n0 else if w = 45 then fMov 1 f n0 else if w = 97 then fSet f 0 n0 else fCer f n0
set_option maxHeartbeats 4000000 in
set_option maxRecDepth 100000 in
theorem mX6_carryOutOrder (l : Launch) (G : GG) {z : Nat} {K N : Nat → Nat} {I : MI} {R : MR} {x : Nat} {f h s0 v0 P : Nat → Int} {n len : Int} (hC : CI G x z K N I R f h s0 v0 P n len) (hx : x + 100 ≤ z) {w n0 n1 n2 : Int} (hw : I (x + 89) 1 = w) (hw2 : 0 ≤ w ∧ w < 128) (q0 : I (x + 89 + 1) 0 = n0) (q1 : I (x + 89 + 1) 1 = n1) (q2 : I (x + 89 + 1) 2 = n2) (hn0 : -2147483648 ≤ n0 ∧ n0 < 2147483648) (hn1 : w = 103 → -2147483648 ≤ n1 ∧ n1 < 2147483648) (hn2 : w = 103 → -2147483648 ≤ n2 ∧ n2 < 2147483648) : Con l G yX6_carryOutOrder (Cond.code yX6_carryOutOrder cX6_carryOutOrder 2 (some .int) :: wsL_law) ⟨6, 2, 31, 129⟩ 2 31 [.ref x] z K N I R (fun r z' K' N' I' R' => r = some (.int (zI (oA f w n0 n1 n2))) ∧ StK x z K N I R z' K' N' I' R' ∧ TQ G (x + 100) z' K' N' I' R' (x + 1) (oF f w n0 n1 n2)) := by
  refine Con.of (own := RX6) (cc := cX6_carryOutOrder) (maxL := 2) (ret := (some .int)) (by decide +kernel) rfl rfl (Nat.le_of_ble_eq_true rfl) (by decide) rfl ?_
  intro p e9 s mt args below meth c Q hin hQ C
  obtain ⟨⟨cx, cr0, cr1, cr2, cr3, cr4⟩, ⟨cH, ⟨cS, cN⟩, cX, cP⟩, cT, ⟨cp, cn, cm, cJ⟩, cSl, cPd⟩ := id hC
  have kn := cT.1.1
  have kh := cH.1
  obtain ⟨kp, ⟨pr0, pr3⟩, ⟨pk1, pk2⟩, pn1, pn2⟩ := id cP
  have kx9 := cX.1
  refine z_aload_n C dX6_carryOutOrder_0 rfl ?_
  refine z_gR C (ci := 6) (k := 4) rfl (by decide) rfl (by decide) wl_6 wq_2_5 (by decide) dX6_carryOutOrder_1 (by assumption) (by assumption) ?_
  refine z_gR C (ci := 3) (k := 0) rfl (by decide) rfl (by decide) wl_3 wq_30_8 (by decide) dX6_carryOutOrder_4 (by assumption) (by assumption) ?_
  refine z_iconst C dX6_carryOutOrder_7 ?_
  refine z_ialdk C (0) dX6_carryOutOrder_8 (by assumption) (by first | rfl | omega) (by omega) (by omega) ?_
  rw [q0]
  refine z_istore_n C dX6_carryOutOrder_9 (by decide) rfl ?_
  refine z_aload_n C dX6_carryOutOrder_10 rfl ?_
  refine z_gR C (ci := 6) (k := 4) rfl (by decide) rfl (by decide) wl_6 wq_2_5 (by decide) dX6_carryOutOrder_11 (by assumption) (by assumption) ?_
  refine z_gI C (ci := 3) (k := 1) rfl (by decide) rfl (by decide) wl_3 wq_30_9 rfl dX6_carryOutOrder_14 (by assumption) ?_
  rw [hw]
  by_cases hs17 : ¬ w = 43 ∧ ¬ w = 45 ∧ ¬ w = 97 ∧ ¬ w = 103 ∧ ¬ w = 109
  · refine z_look C (off := 115) (tgt := 132) dX6_carryOutOrder_17 (by decide) (by omega) (lk_out5 (by omega)) (by decide) ?_
    refine z_aload_n C dX6_carryOutOrder_132 rfl ?_
    refine z_gR C (ci := 6) (k := 0) rfl (by decide) rfl (by decide) wl_6 wq_1_16 (by decide) dX6_carryOutOrder_133 (by assumption) (by assumption) ?_
    refine z_aload_n C dX6_carryOutOrder_136 rfl ?_
    refine z_gR C (ci := 6) (k := 3) rfl (by decide) rfl (by decide) wl_6 wq_2_1 (by decide) dX6_carryOutOrder_137 (by assumption) (by assumption) ?_
    refine z_iload_n C dX6_carryOutOrder_140 rfl ?_
    refine z_callV C (ci := 4) rfl (by decide) (by assumption) (mX4_certifyBy l G cT.1 cT.2.1 cT.2.2.1 cX (by omega) hn0) (cwV 2 C.2.2.2.2.1 gv6_73 rfl rfl rfl hd_X4_certifyBy ⟨Nat.le_of_ble_eq_true rfl, Nat.le_of_ble_eq_true rfl⟩) rfl rfl (Nat.le_of_ble_eq_true rfl) dX6_carryOutOrder_141 ⟨Nat.le_of_ble_eq_true rfl, Nat.le_of_ble_eq_true rfl⟩ ?_
    intro r9 z2 K2 N2 I2 R2 ⟨e1, e2⟩
    subst e1
    obtain ⟨oS, oT⟩ := op_cer cT hx e2
    refine z_conv (st' := [.int (zI (ceV f n0))]) rfl rfl rfl rfl ?_
    refine z_widen (k := 2) (n := 31) (Nat.le_of_ble_eq_true rfl) (Nat.le_of_ble_eq_true rfl) ?_
    exact z_iret2 C hQ rfl dX6_carryOutOrder_144 ⟨zr ((if_neg (show ¬ w = 109 by omega)).trans ((if_neg (show ¬ w = 103 by omega)).trans ((if_neg (show ¬ w = 43 by omega)).trans ((if_neg (show ¬ w = 45 by omega)).trans (if_neg (show ¬ w = 97 by omega)))))).symm, oS, by rw [show oF f w n0 n1 n2 = fCer f n0 from (if_neg (show ¬ w = 109 by omega)).trans ((if_neg (show ¬ w = 103 by omega)).trans ((if_neg (show ¬ w = 43 by omega)).trans ((if_neg (show ¬ w = 45 by omega)).trans (if_neg (show ¬ w = 97 by omega)))))]; exact oT⟩
  · rcases (show w = 43 ∨ w = 45 ∨ w = 97 ∨ w = 103 ∨ w = 109 by omega) with hv | hv | hv | hv | hv
    · refine z_look C (off := 87) (tgt := 104) dX6_carryOutOrder_17 (by decide) (by omega) (by rw [hv]; rfl) (by decide) ?_
      refine z_aload_n C dX6_carryOutOrder_104 rfl ?_
      refine z_gR C (ci := 6) (k := 0) rfl (by decide) rfl (by decide) wl_6 wq_1_16 (by decide) dX6_carryOutOrder_105 (by assumption) (by assumption) ?_
      refine z_iload_n C dX6_carryOutOrder_108 rfl ?_
      refine z_callVd C (ci := 4) rfl (by decide) (by assumption) (mX4_putOn l G cT.1 cT.2.1 cT.2.2.1 hn0) (cwV 1 C.2.2.2.2.1 gv6_60 rfl rfl rfl hd_X4_putOn ⟨Nat.le_of_ble_eq_true rfl, Nat.le_of_ble_eq_true rfl⟩) rfl rfl (Nat.le_of_ble_eq_true rfl) dX6_carryOutOrder_109 ⟨Nat.zero_le _, Nat.zero_le _⟩ ?_
      refine z_widen (k := 2) (n := 31) (Nat.le_of_ble_eq_true rfl) (Nat.le_of_ble_eq_true rfl) ?_
      exact z_iret2 C hQ rfl dX6_carryOutOrder_112 ⟨zr (by rw [hv]; exact ans_mov cT.2.2.1 0 n0), StK.op (op_mov cT 0 n0).2, by rw [hv]; exact (op_mov cT 0 n0).1⟩
    · refine z_look C (off := 96) (tgt := 113) dX6_carryOutOrder_17 (by decide) (by omega) (by rw [hv]; rfl) (by decide) ?_
      refine z_aload_n C dX6_carryOutOrder_113 rfl ?_
      refine z_gR C (ci := 6) (k := 0) rfl (by decide) rfl (by decide) wl_6 wq_1_16 (by decide) dX6_carryOutOrder_114 (by assumption) (by assumption) ?_
      refine z_iload_n C dX6_carryOutOrder_117 rfl ?_
      refine z_callVd C (ci := 4) rfl (by decide) (by assumption) (mX4_takeOff l G cT.1 cT.2.1 cT.2.2.1 hn0) (cwV 1 C.2.2.2.2.1 gv6_63 rfl rfl rfl hd_X4_takeOff ⟨Nat.le_of_ble_eq_true rfl, Nat.le_of_ble_eq_true rfl⟩) rfl rfl (Nat.le_of_ble_eq_true rfl) dX6_carryOutOrder_118 ⟨Nat.zero_le _, Nat.zero_le _⟩ ?_
      refine z_widen (k := 2) (n := 31) (Nat.le_of_ble_eq_true rfl) (Nat.le_of_ble_eq_true rfl) ?_
      exact z_iret2 C hQ rfl dX6_carryOutOrder_121 ⟨zr (by rw [hv]; exact ans_mov cT.2.2.1 1 n0), StK.op (op_mov cT 1 n0).2, by rw [hv]; exact (op_mov cT 1 n0).1⟩
    · refine z_look C (off := 105) (tgt := 122) dX6_carryOutOrder_17 (by decide) (by omega) (by rw [hv]; rfl) (by decide) ?_
      refine z_aload_n C dX6_carryOutOrder_122 rfl ?_
      refine z_gR C (ci := 6) (k := 0) rfl (by decide) rfl (by decide) wl_6 wq_1_16 (by decide) dX6_carryOutOrder_123 (by assumption) (by assumption) ?_
      refine z_iconst C dX6_carryOutOrder_126 ?_
      refine z_iload_n C dX6_carryOutOrder_127 rfl ?_
      refine z_callVd C (ci := 4) rfl (by decide) (by assumption) (mX4_change l G cT.1 cT.2.1 cT.2.2.1 (sg := 0) (by omega) hn0) (cwV 2 C.2.2.2.2.1 gv6_45 rfl rfl rfl hd_X4_change ⟨Nat.le_of_ble_eq_true rfl, Nat.le_of_ble_eq_true rfl⟩) rfl rfl (Nat.le_of_ble_eq_true rfl) dX6_carryOutOrder_128 ⟨Nat.zero_le _, Nat.zero_le _⟩ ?_
      refine z_widen (k := 2) (n := 31) (Nat.le_of_ble_eq_true rfl) (Nat.le_of_ble_eq_true rfl) ?_
      exact z_iret2 C hQ rfl dX6_carryOutOrder_131 ⟨zr (by rw [hv]; exact ans_set cT 0 n0), StK.op (op_set cT 0 n0).2, by rw [hv]; exact (op_set cT 0 n0).1⟩
    · refine z_look C (off := 60) (tgt := 77) dX6_carryOutOrder_17 (by decide) (by omega) (by rw [hv]; rfl) (by decide) ?_
      refine z_aload_n C dX6_carryOutOrder_77 rfl ?_
      refine z_gR C (ci := 6) (k := 0) rfl (by decide) rfl (by decide) wl_6 wq_1_16 (by decide) dX6_carryOutOrder_78 (by assumption) (by assumption) ?_
      refine z_iload_n C dX6_carryOutOrder_81 rfl ?_
      refine z_aload_n C dX6_carryOutOrder_82 rfl ?_
      refine z_gR C (ci := 6) (k := 4) rfl (by decide) rfl (by decide) wl_6 wq_2_5 (by decide) dX6_carryOutOrder_83 (by assumption) (by assumption) ?_
      refine z_gR C (ci := 3) (k := 0) rfl (by decide) rfl (by decide) wl_3 wq_30_8 (by decide) dX6_carryOutOrder_86 (by assumption) (by assumption) ?_
      refine z_iconst C dX6_carryOutOrder_89 ?_
      refine z_ialdk C (1) dX6_carryOutOrder_90 (by assumption) (by first | rfl | omega) (by omega) (by omega) ?_
      rw [q1]
      refine z_aload_n C dX6_carryOutOrder_91 rfl ?_
      refine z_gR C (ci := 6) (k := 4) rfl (by decide) rfl (by decide) wl_6 wq_2_5 (by decide) dX6_carryOutOrder_92 (by assumption) (by assumption) ?_
      refine z_gR C (ci := 3) (k := 0) rfl (by decide) rfl (by decide) wl_3 wq_30_8 (by decide) dX6_carryOutOrder_95 (by assumption) (by assumption) ?_
      refine z_iconst C dX6_carryOutOrder_98 ?_
      refine z_ialdk C (2) dX6_carryOutOrder_99 (by assumption) (by first | rfl | omega) (by omega) (by omega) ?_
      rw [q2]
      refine z_callVd C (ci := 4) rfl (by decide) (by assumption) (mX4_addGauge l G cT.1 cT.2.1 cT.2.2.1 hn0 (hn1 hv) (hn2 hv)) (cwV 3 C.2.2.2.2.1 gv6_66 rfl rfl rfl hd_X4_addGauge ⟨Nat.le_of_ble_eq_true rfl, Nat.le_of_ble_eq_true rfl⟩) rfl rfl (Nat.le_of_ble_eq_true rfl) dX6_carryOutOrder_100 ⟨Nat.zero_le _, Nat.zero_le _⟩ ?_
      refine z_widen (k := 2) (n := 31) (Nat.le_of_ble_eq_true rfl) (Nat.le_of_ble_eq_true rfl) ?_
      exact z_iret2 C hQ rfl dX6_carryOutOrder_103 ⟨zr (by rw [hv]; exact rfl), StK.op (op_gau cT n0 n1 n2).2, by rw [hv]; exact (op_gau cT n0 n1 n2).1⟩
    · refine z_look C (off := 51) (tgt := 68) dX6_carryOutOrder_17 (by decide) (by omega) (by rw [hv]; rfl) (by decide) ?_
      refine z_aload_n C dX6_carryOutOrder_68 rfl ?_
      refine z_gR C (ci := 6) (k := 0) rfl (by decide) rfl (by decide) wl_6 wq_1_16 (by decide) dX6_carryOutOrder_69 (by assumption) (by assumption) ?_
      refine z_iload_n C dX6_carryOutOrder_72 rfl ?_
      refine z_callVd C (ci := 4) rfl (by decide) (by assumption) (mX4_addRing l G cT.1 cT.2.1 cT.2.2.1 hn0) (cwV 1 C.2.2.2.2.1 gv6_53 rfl rfl rfl hd_X4_addRing ⟨Nat.le_of_ble_eq_true rfl, Nat.le_of_ble_eq_true rfl⟩) rfl rfl (Nat.le_of_ble_eq_true rfl) dX6_carryOutOrder_73 ⟨Nat.zero_le _, Nat.zero_le _⟩ ?_
      refine z_widen (k := 2) (n := 31) (Nat.le_of_ble_eq_true rfl) (Nat.le_of_ble_eq_true rfl) ?_
      exact z_iret2 C hQ rfl dX6_carryOutOrder_76 ⟨zr (by rw [hv]; exact rfl), StK.op (op_rin cT n0).2, by rw [hv]; exact (op_rin cT n0).1⟩

