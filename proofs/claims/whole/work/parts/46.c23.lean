/-! the test of the class is the model's -/
theorem insQ_cong {F F' : Nat → Int} {a : Nat → Nat} {r : Nat} (hr : F' r = F r) : ∀ q : Nat, (∀ i : Nat, i < q → F' (a i) = F (a i)) → insQ F' a r q = insQ F a r q
  | 0, _ => rfl
  | q + 1, h => by
    unfold insQ
    rw [h q (by omega), hr, insQ_cong hr q fun i hi => h i (by omega)]
theorem ordC_cong {F F' : Nat → Int} : ∀ n : Nat, (∀ r : Nat, r < n → F' r = F r) → ordC F' n = ordC F n
  | 0, _ => rfl
  | n + 1, h => by
    have ih := ordC_cong n fun r hr => h r (by omega)
    funext j
    rw [ordC_s, ordC_s, ih, insQ_cong (h n (by omega)) n fun i hi => h _ (by have := ordC_lt F n i hi; omega)]
theorem cumS_cong {F F' : Nat → Int} {n : Nat} (h : ∀ r : Nat, r < n → F' r = F r) : ∀ k : Nat, k ≤ n → cumS F' n k = cumS F n k
  | 0, _ => rfl
  | k + 1, hk => by
    show cumS F' n k + F' (ordC F' n k) = cumS F n k + F (ordC F n k)
    rw [cumS_cong h k (by omega), ordC_cong n h, h _ (ordC_lt F n k (by omega))]
theorem hnd_cong {p q : Nat → Int} {e pl : Int} : ∀ k : Nat, (∀ j : Nat, j < k → q j = p j) → hnd q e pl k = hnd p e pl k
  | 0, _ => rfl
  | k + 1, h => by rw [hnd_s, hnd_s, hnd_cong k fun j hj => h j (by omega), h k (by omega)]
theorem rdg_cong {p q : Nat → Int} {e pl sp : Int} {k : Nat} (h : ∀ j : Nat, j < k + 1 → q j = p j) : rdg q e pl sp k = rdg p e pl sp k := by
  unfold rdg
  rw [hnd_cong (k + 1) h]
theorem wrg_cong {p q : Nat → Int} {e pl sp : Int} {k : Nat} (h : ∀ j : Nat, j < k + 1 → q j = p j) : wrg q e pl sp k = wrg p e pl sp k := by
  unfold wrg
  rw [rdg_cong h, h k (by omega)]
theorem grt_cong {w v : Nat → Int} : ∀ k : Nat, (∀ j : Nat, j < k → v j = w j) → grt v k = grt w k
  | 0, _ => rfl
  | k + 1, h => by
    show (if grt v k < v k then v k else grt v k) = (if grt w k < w k then w k else grt w k)
    rw [grt_cong k fun j hj => h j (by omega), h k (by omega)]
theorem wst_cong {w v : Nat → Int} : ∀ k : Nat, (∀ j : Nat, j < k → v j = w j) → wst v k = wst w k
  | 0, _ => rfl
  | k + 1, h => by
    show (if grt v k < v k then (k : Int) else wst v k) = (if grt w k < w k then (k : Int) else wst w k)
    rw [grt_cong k fun j hj => h j (by omega), wst_cong k fun j hj => h j (by omega), h k (by omega)]
/-- the trial is prepared for the rings of f -/
def TX (I J : MI) (b n : Nat) (f : Nat → Int) : Prop := (∀ a : Nat, (a < b ∨ b + 5 ≤ a) → J a = I a) ∧ J b 1 = 2 * (n : Int) ∧ ∀ j : Nat, j ≤ n → J (b + 4) j = prs (100 + cumS (fun r => f (6 + r)) n j) (f 0) (f 1)
theorem TX.pre {I : MI} {t b n : Nat} {f : Nat → Int} (hV : TN I t f) (hn : (f 3).toNat = n) : TX I (preI I b t n (f 0) (f 1)) b n f := by
  refine ⟨fun a ha => ?_, u2_s _ _ _ _, fun j hj => ?_⟩
  · unfold preI
    rw [u2_row (by omega), va_up_n (by omega), va_up_n (by omega)]
  · unfold preI
    rw [u2_row (by omega), va_up_s]
    unfold prR
    rw [if_pos (by omega), smG_cum _ _ j hj, cumS_cong (F := fun r => f (6 + r)) (fun r hr => hV.2.2.1 r (by omega)) j hj]
theorem TX.rng {I J : MI} {b n : Nat} {f : Nat → Int} (h : TX I J b n f) (hO : Ok f) (hn : (f 3).toNat = n) (j : Nat) (hj : j ≤ n) : 0 ≤ J (b + 4) j ∧ J (b + 4) j ≤ 14008600 := by
  rw [h.2.2 j hj]
  have h3 := hO.2.2.2.1
  have hs := smG_rng (g := srtR (fun r => f (6 + r)) n (fun _ => 0) n) j fun i hi => by
    rw [srtR_at _ _ (by omega)]
    have h9 := ordC_lt (fun r => f (6 + r)) n i (by omega)
    have := hO.2.2.2.2.2.2.1 (ordC (fun r => f (6 + r)) n i) (by omega)
    exact ⟨by omega, by omega⟩
  rw [smG_cum _ _ j hj] at hs
  exact prs_rng (by omega) hO.1 hO.2.1
theorem TX.e_run {I J : MI} {b n : Nat} {f : Nat → Int} (h : TX I J b n f) (er pl sp hh : Int) (rd : Nat → Int) (G9 W9 : Int) : TX I (runM J b er pl sp hh rd G9 W9) b n f := by
  refine ⟨fun a ha => ?_, ?_, fun j hj => ?_⟩
  · rw [runM_n _ _ _ _ _ _ _ _ _ _ (by omega) (by omega) (by omega)]; exact h.1 a ha
  · rw [runM_b, st1_n (by omega), st1_n (by omega)]; exact h.2.1
  · rw [runM_n _ _ _ _ _ _ _ _ _ _ (by omega) (by omega) (by omega)]; exact h.2.2 j hj
theorem TX.prx {I J : MI} {b n : Nat} {f : Nat → Int} (h : TX I J b n f) (hn : (f 3).toNat = n) (k : Nat) (hk : k < 2 * n) : prX J b n k = tpr f k := by
  unfold prX tpr tprN
  rw [hn, h.2.2 _ (by unfold cntK; split <;> omega)]
theorem TX.gr {I J : MI} {b n : Nat} {f : Nat → Int} (h : TX I J b n f) (hn : (f 3).toNat = n) (h0 : 0 < n) (g : Nat) (er : Int) : grX (wrg (prX J b n) er (f (21 + 36 * g)) (f (22 + 36 * g))) (2 * n) = gTst f g er := by
  unfold grX gTst tstW
  rw [if_neg (by omega), hn]
  exact grt_cong _ fun j hj => wrg_cong fun i hi => h.prx hn i (by omega)
theorem TX.ws {I J : MI} {b n : Nat} {f : Nat → Int} (h : TX I J b n f) (hn : (f 3).toNat = n) (g : Nat) (er : Int) : wst (wrg (prX J b n) er (f (21 + 36 * g)) (f (22 + 36 * g))) (2 * n) = wTst f g er := by
  unfold wTst tstW
  rw [hn]
  exact wst_cong _ fun j hj => wrg_cong fun i hi => h.prx hn i (by omega)
theorem TX.rd {I J : MI} {b n : Nat} {f : Nat → Int} (h : TX I J b n f) (hn : (f 3).toNat = n) (g : Nat) (er : Int) (old : Nat → Int) (k : Nat) (hk : k < 2 * n) : rdX (prX J b n) er (f (21 + 36 * g)) (f (22 + 36 * g)) old (2 * n) k = rTst f g er k := by
  unfold rdX rTst
  rw [if_pos hk]
  exact rdg_cong fun i hi => h.prx hn i (by omega)
/-! a certificate -/
def ceV (f : Nat → Int) (q : Int) : Int := if 0 ≤ q ∧ q ≤ f 5 - 1 then (if f 3 = 0 then -5 else gTst f q.toNat (f (20 + 36 * q.toNat))) else -1
def ceC (f : Nat → Int) (q : Int) : Prop := (0 ≤ q ∧ q ≤ f 5 - 1) ∧ ¬ f 3 = 0 ∧ gTst f q.toNat (f (20 + 36 * q.toNat)) ≤ f 2
def ceP (G : GG) (t b : Nat) (f : Nat → Int) (q : Int) (z : Nat) (K N : Nat → Nat) (I : MI) (R : MR) (z' : Nat) (K' N' : Nat → Nat) (I' : MI) (R' : MR) : Prop :=
  (z ≤ z' ∧ ∀ a : Nat, a < z → K' a = K a ∧ N' a = N a) ∧ (∀ a : Nat, a < z → (a < b ∨ b + 5 ≤ a) → I' a = I a) ∧ (∀ a j : Nat, a < z → a ≠ b + 2 → ¬ (a = t + 4 + q.toNat ∧ j = 4) → R' a j = R a j) ∧
  (ceC f q → ∃ c : Nat, z ≤ c ∧ R' (t + 4 + q.toNat) 4 = some c ∧ zK G z' K' c 0 ∧ zK G z' K' (c + 1) 9 ∧ R' c 0 = some (c + 1) ∧ (N' (c + 1) : Int) = 2 * f 3 ∧ I' c 1 = gTst f q.toNat (f (20 + 36 * q.toNat)) ∧ I' c 2 = f 0 ∧ ∀ k : Nat, (k : Int) < 2 * f 3 → I' (c + 1) k = rTst f q.toNat (f (20 + 36 * q.toNat)) k) ∧
  (¬ ceC f q → R' (t + 4 + q.toNat) 4 = R (t + 4 + q.toNat) 4)
theorem ceP_no {G : GG} {t b : Nat} {f : Nat → Int} {q : Int} {z : Nat} {K N : Nat → Nat} {I : MI} {R : MR} (h : ¬ ceC f q) : ceP G t b f q z K N I R z K N I R :=
  ⟨⟨Nat.le_refl z, fun _ _ => ⟨rfl, rfl⟩⟩, fun _ _ _ => rfl, fun _ _ _ _ _ => rfl, fun z => absurd z h, fun _ => rfl⟩
theorem ceP_nop {G : GG} {t b g : Nat} {f : Nat → Int} {z : Nat} {K N : Nat → Nat} {I J : MI} {R : MR} (h : ¬ ceC f (g : Int)) (hb : ¬ t + 4 + g = b + 2) (hJ : ∀ a : Nat, (a < b ∨ b + 5 ≤ a) → J a = I a) : ceP G t b f (g : Int) z K N I R z K N J (u2 R (b + 2) 4 none) :=
  ⟨⟨Nat.le_refl z, fun _ _ => ⟨rfl, rfl⟩⟩, fun a _ ha => hJ a ha, fun a j _ h2 _ => by rw [u2_row h2], fun z => absurd z h, fun _ => by rw [u2_row (show t + 4 + (g : Int).toNat ≠ b + 2 from hb)]⟩
theorem ceP_yes {G : GG} {t b g n : Nat} {f : Nat → Int} {z : Nat} {K N : Nat → Nat} {I J : MI} {R : MR} {row : Nat → Int} (hz : G.2.2.size ≤ z) (htz : t + 4 + g < z) (hbz : b + 4 < z) (hb : ¬ t + 4 + g = b + 2) (hn : (f 3).toNat = n) (h3 : 0 ≤ f 3) (hc : ceC f (g : Int)) (hJ : ∀ a : Nat, (a < b ∨ b + 5 ≤ a) → J a = I a) (hr : ∀ k : Nat, k < 2 * n → row k = rTst f g (f (20 + 36 * g)) k) :
    ceP G t b f (g : Int) z K N I R (z + 1 + 1) (va_up (va_up K z 0) (z + 1) 9) (va_up N (z + 1) (2 * n)) (u2 (u2 (va_up (va_up J z (fun _ => 0)) (z + 1) row) z 1 (gTst f g (f (20 + 36 * g)))) z 2 (f 0)) (u2 (u2 (va_up (u2 R (b + 2) 4 none) z (fun _ => none)) z 0 (some (z + 1))) (t + 4 + g) 4 (some z)) := by
  refine ⟨⟨by omega, fun a ha => ⟨?_, ?_⟩⟩, fun a ha hab => ?_, fun a j ha h2 h4 => ?_, fun _ => ⟨z, Nat.le_refl z, ?_, ⟨hz, by omega, ?_⟩, ⟨by omega, by omega, va_up_s _ _ _⟩, ?_, ?_, ?_, ?_, fun k hk => ?_⟩, fun z => absurd hc z⟩
  · rw [va_up_n (by omega), va_up_n (by omega)]
  · rw [va_up_n (by omega)]
  · rw [u2_row (by omega), u2_row (by omega), va_up_n (by omega), va_up_n (by omega)]; exact hJ a hab
  · have h4b : ¬ (a = t + 4 + g ∧ j = 4) := h4
    rw [show u2 (u2 (va_up (u2 R (b + 2) 4 none) z (fun _ => none)) z 0 (some (z + 1))) (t + 4 + g) 4 (some z) a j = u2 (va_up (u2 R (b + 2) 4 none) z (fun _ => none)) z 0 (some (z + 1)) a j from if_neg h4b, u2_row (by omega), va_up_n (by omega), u2_row h2]
  · exact u2_s _ _ _ _
  · rw [va_up_n (by omega), va_up_s]
  · rw [u2_row (by omega), u2_s]
  · rw [va_up_s]; omega
  · rw [u2_k (by omega), u2_s]; rfl
  · rw [u2_s]
  · rw [u2_row (by omega), u2_row (by omega), va_up_s]
    exact hr k (by omega)
theorem ShX.up {G : GG} {z : Nat} {K N : Nat → Nat} {R : MR} {b : Nat} (h : ShX G z K N R b) (kd : Nat) : ShX G (z + 1) (va_up K z kd) N (va_up R z (fun _ => none)) b := by
  obtain ⟨xo, ⟨x0, x4, x5, x6⟩, ⟨y1, y2, y3, y4⟩, w1, w3, w4⟩ := h
  have hb : b ≠ z := Nat.ne_of_lt xo.2.1
  exact ⟨zK_up kd xo, ⟨by rw [va_up_n hb]; exact x0, by rw [va_up_n hb]; exact x4, by rw [va_up_n hb]; exact x5, by rw [va_up_n hb]; exact x6⟩, ⟨zK_up kd y1, zK_up kd y2, zK_up kd y3, zK_up kd y4⟩, w1, w3, w4⟩
theorem ShX.g2 {G : GG} {z : Nat} {K N : Nat → Nat} {R : MR} {b : Nat} (h : ShX G z K N R b) : ShX G z K N (u2 R (b + 2) 4 none) b := by
  obtain ⟨xo, ⟨x0, x4, x5, x6⟩, r⟩ := h
  exact ⟨xo, ⟨by rw [u2_row (by omega)]; exact x0, by rw [u2_row (by omega)]; exact x4, by rw [u2_row (by omega)]; exact x5, by rw [u2_row (by omega)]; exact x6⟩, r⟩
def dfq (ci N0 : Nat) : Prop := ∀ k : Nat, k < N0 → defaultValue (zty ci k) = zfv (zty ci k) 0 none
theorem dfv_0 : ∀ k : Nat, k < 3 → defaultValue (zty 0 k) = zfv (zty 0 k) 0 none := by
  intro k hk
  match k, hk with
  | 0, _ => rfl
  | 1, _ => rfl
  | 2, _ => rfl
  | k + 3, h => exact absurd h (by omega)
theorem dfv_1 : ∀ k : Nat, k < 5 → defaultValue (zty 1 k) = zfv (zty 1 k) 0 none := by
  intro k hk
  match k, hk with
  | 0, _ => rfl
  | 1, _ => rfl
  | 2, _ => rfl
  | 3, _ => rfl
  | 4, _ => rfl
  | k + 5, h => exact absurd h (by omega)
theorem dfv_2 : ∀ k : Nat, k < 3 → defaultValue (zty 2 k) = zfv (zty 2 k) 0 none := by
  intro k hk
  match k, hk with
  | 0, _ => rfl
  | 1, _ => rfl
  | 2, _ => rfl
  | k + 3, h => exact absurd h (by omega)
theorem dfv_3 : ∀ k : Nat, k < 5 → defaultValue (zty 3 k) = zfv (zty 3 k) 0 none := by
  intro k hk
  match k, hk with
  | 0, _ => rfl
  | 1, _ => rfl
  | 2, _ => rfl
  | 3, _ => rfl
  | 4, _ => rfl
  | k + 5, h => exact absurd h (by omega)
theorem dfv_4 : ∀ k : Nat, k < 6 → defaultValue (zty 4 k) = zfv (zty 4 k) 0 none := by
  intro k hk
  match k, hk with
  | 0, _ => rfl
  | 1, _ => rfl
  | 2, _ => rfl
  | 3, _ => rfl
  | 4, _ => rfl
  | 5, _ => rfl
  | k + 6, h => exact absurd h (by omega)
theorem dfv_5 : ∀ k : Nat, k < 7 → defaultValue (zty 5 k) = zfv (zty 5 k) 0 none := by
  intro k hk
  match k, hk with
  | 0, _ => rfl
  | 1, _ => rfl
  | 2, _ => rfl
  | 3, _ => rfl
  | 4, _ => rfl
  | 5, _ => rfl
  | 6, _ => rfl
  | k + 7, h => exact absurd h (by omega)
theorem dfv_6 : ∀ k : Nat, k < 5 → defaultValue (zty 6 k) = zfv (zty 6 k) 0 none := by
  intro k hk
  match k, hk with
  | 0, _ => rfl
  | 1, _ => rfl
  | 2, _ => rfl
  | 3, _ => rfl
  | 4, _ => rfl
  | k + 5, h => exact absurd h (by omega)
theorem dfv_7 : ∀ k : Nat, k < 16 → defaultValue (zty 7 k) = zfv (zty 7 k) 0 none := by
  intro k hk
  match k, hk with
  | 0, _ => rfl
  | 1, _ => rfl
  | 2, _ => rfl
  | 3, _ => rfl
  | 4, _ => rfl
  | 5, _ => rfl
  | 6, _ => rfl
  | 7, _ => rfl
  | 8, _ => rfl
  | 9, _ => rfl
  | 10, _ => rfl
  | 11, _ => rfl
  | 12, _ => rfl
  | 13, _ => rfl
  | 14, _ => rfl
  | 15, _ => rfl
  | k + 16, h => exact absurd h (by omega)
set_option maxHeartbeats 4000000 in
set_option maxRecDepth 100000 in
theorem mX4_certifyBy (l : Launch) (G : GG) {z : Nat} {K N : Nat → Nat} {I : MI} {R : MR} {t : Nat} (hM : ShT G z K N R t) {f : Nat → Int} (hV : TN I t f) (hO : Ok f) {b : Nat} (hX : ShX G z K N R b) (hd : t + 10 ≤ b ∨ b + 5 ≤ t) {q : Int} (hq : -2147483648 ≤ q ∧ q < 2147483648) : Con l G yX4_certifyBy (Cond.code yX4_certifyBy cX4_certifyBy 4 (some .int) :: wsL_law) ⟨4, 2, 31, 88⟩ 2 31 [.ref t, .ref b, .int (zI q)] z K N I R (fun r z' K' N' I' R' => r = some (.int (zI (ceV f q))) ∧ ceP G t b f q z K N I R z' K' N' I' R') := by
  refine Con.of (own := RX4) (cc := cX4_certifyBy) (maxL := 4) (ret := (some .int)) (by decide +kernel) rfl rfl (Nat.le_of_ble_eq_true rfl) (by decide) rfl ?_
  intro p e9 s mt args below meth c Q hin hQ C
  obtain ⟨ho, ⟨r0, r1, r2⟩, ⟨k1, k2, k3⟩, ⟨n1, n2, n3⟩, hg⟩ := id hM
  obtain ⟨⟨v0, v1, v2⟩, ⟨v3, v4, v5⟩, vr, vg⟩ := id hV
  obtain ⟨b0, b1, b2, b3, b4, b5, br, bg⟩ := id hO
  have b4b := Ok4 hO
  obtain ⟨xo, ⟨x0, x4, x5, x6⟩, ⟨y1, y2, y3, y4⟩, w1, w3, w4⟩ := id hX
  have tz := (hg 5 (by omega)).1.2.1
  have bz := y4.2.1
  obtain ⟨n, hn⟩ : ∃ n : Nat, (f 3).toNat = n := ⟨_, rfl⟩
  refine z_aload_n C dX4_certifyBy_0 rfl ?_
  refine z_iload_n C dX4_certifyBy_1 rfl ?_
  refine z_callVd C (ci := 4) rfl (by decide) (by first | assumption | exact hM.1) (mX4_gaugeAt l G hM hV hO hq) (cwV 1 C.2.2.2.2.1 gv4_84 rfl rfl rfl hd_X4_gaugeAt ⟨Nat.le_of_ble_eq_true rfl, Nat.le_of_ble_eq_true rfl⟩) rfl rfl (Nat.le_of_ble_eq_true rfl) dX4_certifyBy_2 ⟨Nat.zero_le _, Nat.zero_le _⟩ ?_
  by_cases hq9 : 0 ≤ q ∧ q ≤ I t 5 - 1
  · obtain ⟨n9, rfl⟩ := Int.eq_ofNat_of_zero_le (show 0 ≤ q by omega)
    have kg9 := (hg n9 (by omega)).1
    have kr9 := (hg n9 (by omega)).2
    refine z_top (y := .ref (t + 4 + n9)) (by rw [if_pos hq9]; rfl) ?_
    refine z_astore_n C dX4_certifyBy_5 (by decide) rfl ?_
    refine z_aload_n C dX4_certifyBy_6 rfl ?_
    refine z_nonnullR C (tgt := 12) dX4_certifyBy_7 (by decide) ?_
    have hyq : 0 ≤ (n9 : Int) ∧ (n9 : Int) ≤ f 5 - 1 := by omega
    obtain ⟨g0, g1, g2, g3⟩ := vg n9 (by omega)
    obtain ⟨c0, c1, c2, c3, c4⟩ := bg n9 (by omega)
    refine z_aload_n C dX4_certifyBy_12 rfl ?_
    refine z_gI C (ci := 4) (k := 3) rfl (by decide) rfl (by decide) wl_4 wq_5_3 rfl dX4_certifyBy_13 (by assumption) ?_
    refine z_if_ne C (tgt := 22) dX4_certifyBy_16 (by decide) (by first | omega | exact b2i_r) (fun h16 => ?_) (fun h16 => ?_)
    · have h3n : ¬ f 3 = 0 := by omega
      refine z_aload_n C dX4_certifyBy_22 rfl ?_
      refine z_aload_n C dX4_certifyBy_23 rfl ?_
      refine z_callVd C (ci := 5) rfl (by decide) (by first | assumption | exact hM.1) (mX5_prepare l G hX hM hd hV hO) (cwV 1 C.2.2.2.2.1 gv4_95 rfl rfl rfl hd_X5_prepare ⟨Nat.le_of_ble_eq_true rfl, Nat.le_of_ble_eq_true rfl⟩) rfl rfl (Nat.le_of_ble_eq_true rfl) dX4_certifyBy_24 ⟨Nat.zero_le _, Nat.zero_le _⟩ ?_
      have hTX := TX.pre (b := b) hV hn
      rw [hn]
      obtain ⟨J, hJe⟩ : ∃ J : MI, J = preI I b t n (f 0) (f 1) := ⟨_, rfl⟩
      rw [← hJe] at hTX ⊢
      have hJg : J (t + 4 + n9) = I (t + 4 + n9) := hTX.1 _ (by omega)
      refine z_aload_n C dX4_certifyBy_27 rfl ?_
      refine z_aload_n C dX4_certifyBy_28 rfl ?_
      refine z_aload_n C dX4_certifyBy_29 rfl ?_
      refine z_gI C (ci := 1) (k := 0) rfl (by decide) rfl (by decide) wl_1 wq_15_14 rfl dX4_certifyBy_30 (by assumption) ?_
      rw [hJg, g0]
      refine z_callVd C (ci := 5) rfl (by decide) (by first | assumption | exact hM.1) (mX5_run l G hX kg9 (by omega) (by omega) hTX.2.1 (hTX.rng hO hn) c0 (by rw [hJg, g1]; exact c1) (by rw [hJg, g2]; exact c2)) (cwV 2 C.2.2.2.2.1 gv4_101 rfl rfl rfl hd_X5_run ⟨Nat.le_of_ble_eq_true rfl, Nat.le_of_ble_eq_true rfl⟩) rfl rfl (Nat.le_of_ble_eq_true rfl) dX4_certifyBy_33 ⟨Nat.zero_le _, Nat.zero_le _⟩ ?_
      rw [hJg, g1, g2]
      have hgr := hTX.gr hn (by omega) n9 (f (20 + 36 * n9))
      have hrd := hTX.rd hn n9 (f (20 + 36 * n9)) (J (b + 1))
      have hTX2 := hTX.e_run (f (20 + 36 * n9)) (f (21 + 36 * n9)) (f (22 + 36 * n9)) (hnd (prX J b n) (f (20 + 36 * n9)) (f (21 + 36 * n9)) (2 * n)) (rdX (prX J b n) (f (20 + 36 * n9)) (f (21 + 36 * n9)) (f (22 + 36 * n9)) (J (b + 1)) (2 * n)) (grX (wrg (prX J b n) (f (20 + 36 * n9)) (f (21 + 36 * n9)) (f (22 + 36 * n9))) (2 * n)) (wst (wrg (prX J b n) (f (20 + 36 * n9)) (f (21 + 36 * n9)) (f (22 + 36 * n9))) (2 * n))
      obtain ⟨J2, hJ2e⟩ : ∃ J2 : MI, J2 = runM J b (f (20 + 36 * n9)) (f (21 + 36 * n9)) (f (22 + 36 * n9)) (hnd (prX J b n) (f (20 + 36 * n9)) (f (21 + 36 * n9)) (2 * n)) (rdX (prX J b n) (f (20 + 36 * n9)) (f (21 + 36 * n9)) (f (22 + 36 * n9)) (J (b + 1)) (2 * n)) (grX (wrg (prX J b n) (f (20 + 36 * n9)) (f (21 + 36 * n9)) (f (22 + 36 * n9))) (2 * n)) (wst (wrg (prX J b n) (f (20 + 36 * n9)) (f (21 + 36 * n9)) (f (22 + 36 * n9))) (2 * n)) := ⟨_, rfl⟩
      have hg9 : J2 b 2 = gTst f n9 (f (20 + 36 * n9)) := by rw [hJ2e, runM_b, st1_n (by omega), st1_s]; exact hgr
      have hr9 : ∀ k : Nat, k < 2 * n → J2 (b + 1) k = rTst f n9 (f (20 + 36 * n9)) k := fun k hk => by rw [hJ2e, runM_1]; exact hrd k hk
      rw [← hJ2e] at hTX2 ⊢
      have hgt := gTst_rng hO (by omega) (g := n9) (by omega) c0
      have hJ2t : J2 (t + 1) = I (t + 1) := hTX2.1 _ (by omega)
      have hRt2 : u2 R (b + 2) 4 none t 0 = some (t + 1) := by rw [u2_row (by omega)]; exact r0
      refine z_aload_n C dX4_certifyBy_36 rfl ?_
      refine z_gI C (ci := 5) (k := 2) rfl (by decide) rfl (by decide) wl_5 wq_16_11 rfl dX4_certifyBy_37 (by assumption) ?_
      rw [hg9]
      refine z_aload_n C dX4_certifyBy_40 rfl ?_
      refine z_gR C (ci := 4) (k := 0) rfl (by decide) rfl (by decide) wl_4 wq_2_16 (by decide) dX4_certifyBy_41 (by assumption) (by assumption) ?_
      refine z_iconst C dX4_certifyBy_44 ?_
      refine z_ialdk C (2) dX4_certifyBy_45 (by assumption) (by first | rfl | omega) (by omega) (by omega) ?_
      rw [hJ2t, v2]
      refine z_icmp_gt C (tgt := 67) dX4_certifyBy_46 (by decide) (by first | omega | exact b2i_r) (by first | omega | exact b2i_r) (fun h46 => ?_) (fun h46 => ?_)
      · refine z_aload_n C dX4_certifyBy_67 rfl ?_
        refine z_gI C (ci := 5) (k := 2) rfl (by decide) rfl (by decide) wl_5 wq_16_11 rfl dX4_certifyBy_68 (by assumption) ?_
        first
        | (rw [hg9]; have hce : ¬ ceC f (n9 : Int) := fun z => by have z2 : gTst f n9 (f (20 + 36 * n9)) ≤ f 2 := z.2.2; omega)
        | rw [u2_row (show b ≠ z by omega), u2_row (show b ≠ z by omega), va_up_n (show b ≠ z + 1 by omega), va_up_n (show b ≠ z by omega), hg9]
        refine z_widen (k := 2) (n := 31) (Nat.le_of_ble_eq_true rfl) (Nat.le_of_ble_eq_true rfl) ?_
        first
        | exact z_iret2 C hQ rfl dX4_certifyBy_71 ⟨zr ((if_pos hyq).trans (if_neg h3n)).symm, ceP_nop hce (by omega) hTX2.1⟩
        | exact z_iret2 C hQ rfl dX4_certifyBy_71 ⟨zr ((if_pos hyq).trans (if_neg h3n)).symm, hfin⟩
      · have hce : ceC f (n9 : Int) := ⟨hyq, h3n, by show gTst f n9 (f (20 + 36 * n9)) ≤ f 2; omega⟩
        refine z_aload_n C dX4_certifyBy_49 rfl ?_
        refine z_new C 0 (C0 := RX0) (T0 := TX0) (N0 := 3) rfl (by decide) rfl tyX0_ok dfv_0 wl_0 wq_16_12 wq_16_13 wq_16_14 dX4_certifyBy_50 (Nat.le_of_ble_eq_true rfl) (Nat.le_of_ble_eq_true rfl) ?_
        have kg8 := zK_up 0 kg9
        have kb8 := zK_up 0 xo
        have kt8 := zK_up 0 ho
        have ks8 := zK_up 0 k1
        have hXu : ShX G (z + 1) (va_up K z 0) N (va_up (u2 R (b + 2) 4 none) z (fun _ => none)) b := ShX.up (hX.g2) 0
        have hRt : va_up (u2 R (b + 2) 4 none) z (fun _ => none) t 0 = some (t + 1) := by rw [va_up_n (by omega), u2_row (by omega)]; exact r0
        refine z_dup C dX4_certifyBy_53 rfl ?_
        refine z_aload_n C dX4_certifyBy_54 rfl ?_
        refine z_aload_n C dX4_certifyBy_55 rfl ?_
        refine z_gR C (ci := 4) (k := 0) rfl (by decide) rfl (by decide) wl_4 wq_2_16 (by decide) dX4_certifyBy_56 (by assumption) (by assumption) ?_
        refine z_iconst C dX4_certifyBy_59 ?_
        refine z_ialdk C (0) dX4_certifyBy_60 (by assumption) (by first | rfl | omega) (by omega) (by omega) ?_
        rw [va_up_n (show t + 1 ≠ z by omega), hJ2t, v0]
        refine z_callI C (mX0_init l G (n := n) (zK_new 0 (zK_z ho)) hXu (by rw [va_up_n (show b ≠ z by omega), hTX2.2.1]; omega) (by omega)) (cwI 2 C.2.2.2.2.1 gn_X0_init rfl rfl rfl (C.2.2.2.2.1 _ wq_16_14) (C.2.2.2.2.1 _ wq_17_19) (C.2.2.2.2.1 _ wq_17_20) rfl hs_X0_init ⟨Nat.le_of_ble_eq_true rfl, Nat.le_of_ble_eq_true rfl⟩) rfl rfl (Nat.le_of_ble_eq_true rfl) dX4_certifyBy_61 ⟨Nat.le_of_ble_eq_true rfl, Nat.le_of_ble_eq_true rfl⟩ ?_
        intro r9 z9 K9 N9 I9 R9 ⟨e1, e2, e3, e4, e5, row, e6, e7⟩
        subst e1; subst e2; subst e3; subst e4; subst e5; subst e6
        have kg7 := zK_up 9 kg8
        have kb7 := zK_up 9 kb8
        refine z_conv (I' := u2 (u2 (va_up (va_up J2 z (fun _ => 0)) (z + 1) row) z 1 (gTst f n9 (f (20 + 36 * n9)))) z 2 (f 0)) (st' := [.ref z, .ref (t + 4 + n9)]) (by rw [va_up_n (show b ≠ z by omega), hg9]) rfl rfl rfl ?_
        refine z_pR (r := some z) C (ci := 1) (k := 4) rfl (by decide) rfl (by decide) tyX1_ok nmX1 wl_1 wq_5_23 (by decide) (fun r => by cases r <;> exact ⟨rfl, rfl⟩) (Or.inl rfl) dX4_certifyBy_64 kg7 ?_
        have hfin := ceP_yes (K := K) (N := N) (I := I) (J := J2) (R := R) (row := row) (t := t) (g := n9) (b := b) (zK_z ho) (by omega) (by omega) (by omega) hn b3.1 hce hTX2.1 (fun k hk => by rw [e7 k hk, va_up_n (show b + 1 ≠ z by omega)]; exact hr9 k hk)
        refine z_aload_n C dX4_certifyBy_67 rfl ?_
        refine z_gI C (ci := 5) (k := 2) rfl (by decide) rfl (by decide) wl_5 wq_16_11 rfl dX4_certifyBy_68 (by assumption) ?_
        first
        | (rw [hg9]; have hce : ¬ ceC f (n9 : Int) := fun z => by have z2 : gTst f n9 (f (20 + 36 * n9)) ≤ f 2 := z.2.2; omega)
        | rw [u2_row (show b ≠ z by omega), u2_row (show b ≠ z by omega), va_up_n (show b ≠ z + 1 by omega), va_up_n (show b ≠ z by omega), hg9]
        refine z_widen (k := 2) (n := 31) (Nat.le_of_ble_eq_true rfl) (Nat.le_of_ble_eq_true rfl) ?_
        first
        | exact z_iret2 C hQ rfl dX4_certifyBy_71 ⟨zr ((if_pos hyq).trans (if_neg h3n)).symm, ceP_nop hce (by omega) hTX2.1⟩
        | exact z_iret2 C hQ rfl dX4_certifyBy_71 ⟨zr ((if_pos hyq).trans (if_neg h3n)).symm, hfin⟩
    · have h30 : f 3 = 0 := by omega
      refine z_bipush C dX4_certifyBy_19 (by decide) ?_
      refine z_widen (k := 2) (n := 31) (Nat.le_of_ble_eq_true rfl) (Nat.le_of_ble_eq_true rfl) ?_
      exact z_iret2 C hQ rfl dX4_certifyBy_21 ⟨zr ((if_pos hyq).trans (if_pos h30)).symm, ceP_no (fun z => z.2.1 h30)⟩
  · refine z_top (y := .null) (by rw [if_neg hq9]; rfl) ?_
    refine z_astoreN_n C dX4_certifyBy_5 (by decide) rfl ?_
    refine z_aloadN_n C dX4_certifyBy_6 rfl ?_
    refine z_nonnullN C dX4_certifyBy_7 ?_
    have hno : ¬ (0 ≤ q ∧ q ≤ f 5 - 1) := by omega
    refine z_iconst C dX4_certifyBy_10 ?_
    refine z_widen (k := 2) (n := 31) (Nat.le_of_ble_eq_true rfl) (Nat.le_of_ble_eq_true rfl) ?_
    exact z_iret2 C hQ rfl dX4_certifyBy_11 ⟨zr (if_neg hno).symm, ceP_no (fun z => hno z.1)⟩

