def runM (I : MI) (b : Nat) (er pl sp h : Int) (rd : Nat → Int) (G9 W9 : Int) : MI := va_up (va_up (va_up I (b + 2) (st1 (gR er pl sp (I (b + 2))) 3 h)) (b + 1) rd) b (st1 (st1 (I b) 2 G9) 3 W9)
theorem runM_b (I : MI) (b : Nat) (er pl sp h : Int) (rd : Nat → Int) (G9 W9 : Int) : runM I b er pl sp h rd G9 W9 b = st1 (st1 (I b) 2 G9) 3 W9 := va_up_s _ _ _
theorem runM_1 (I : MI) (b : Nat) (er pl sp h : Int) (rd : Nat → Int) (G9 W9 : Int) : runM I b er pl sp h rd G9 W9 (b + 1) = rd := by
  unfold runM
  rw [va_up_n (by omega), va_up_s]
theorem runM_2 (I : MI) (b : Nat) (er pl sp h : Int) (rd : Nat → Int) (G9 W9 : Int) : runM I b er pl sp h rd G9 W9 (b + 2) = st1 (gR er pl sp (I (b + 2))) 3 h := by
  unfold runM
  rw [va_up_n (by omega), va_up_n (by omega), va_up_s]
theorem runM_n (I : MI) (b a : Nat) (er pl sp h : Int) (rd : Nat → Int) (G9 W9 : Int) (h0 : a ≠ b) (h1 : a ≠ b + 1) (h2 : a ≠ b + 2) : runM I b er pl sp h rd G9 W9 a = I a := by
  unfold runM
  rw [va_up_n h0, va_up_n h1, va_up_n h2]
theorem runM_ext {I J : MI} {b : Nat} {er pl sp h : Int} {rd : Nat → Int} {G9 W9 : Int} (e0 : J b = st1 (st1 (I b) 2 G9) 3 W9) (e1 : J (b + 1) = rd) (e2 : J (b + 2) = st1 (gR er pl sp (I (b + 2))) 3 h) (e3 : ∀ a : Nat, a ≠ b → a ≠ b + 1 → a ≠ b + 2 → J a = I a) : J = runM I b er pl sp h rd G9 W9 := by
  funext a
  by_cases h0 : a = b
  · subst h0; rw [runM_b, e0]
  · by_cases h1 : a = b + 1
    · subst h1; rw [runM_1, e1]
    · by_cases h2 : a = b + 2
      · subst h2; rw [runM_2, e2]
      · rw [runM_n _ _ _ _ _ _ _ _ _ _ h0 h1 h2, e3 a h0 h1 h2]
theorem st1_2 (f : Nat → Int) (k : Nat) (v w : Int) : st1 (st1 f k v) k w = st1 f k w := by
  funext j
  unfold st1
  by_cases h : j = k
  · rw [if_pos h, if_pos h]
  · rw [if_neg h, if_neg h, if_neg h]
theorem st1_c (f : Nat → Int) {k q : Nat} (hk : k ≠ q) (v w : Int) : st1 (st1 f k v) q w = st1 (st1 f q w) k v := by
  funext j
  unfold st1
  by_cases h : j = k
  · rw [if_pos h, if_neg (by omega), if_pos h]
  · rw [if_neg h, if_neg h]
theorem runM_h (I : MI) (b : Nat) (er pl sp h : Int) (rd : Nat → Int) (G9 W9 h2 : Int) : u2 (runM I b er pl sp h rd G9 W9) (b + 2) 3 h2 = runM I b er pl sp h2 rd G9 W9 := by
  rw [u2_st]
  refine runM_ext ?_ ?_ ?_ fun a a0 a1 a2 => ?_
  · rw [va_up_n (by omega), runM_b]
  · rw [va_up_n (by omega), runM_1]
  · rw [va_up_s, runM_2, st1_2]
  · rw [va_up_n a2, runM_n _ _ _ _ _ _ _ _ _ _ a0 a1 a2]
theorem runM_r (I : MI) (b : Nat) (er pl sp h : Int) (rd : Nat → Int) (G9 W9 : Int) (k : Nat) (v : Int) : u2 (runM I b er pl sp h rd G9 W9) (b + 1) k v = runM I b er pl sp h (st1 rd k v) G9 W9 := by
  rw [u2_st]
  refine runM_ext ?_ ?_ ?_ fun a a0 a1 a2 => ?_
  · rw [va_up_n (by omega), runM_b]
  · rw [va_up_s, runM_1]
  · rw [va_up_n (by omega), runM_2]
  · rw [va_up_n a1, runM_n _ _ _ _ _ _ _ _ _ _ a0 a1 a2]
theorem runM_g (I : MI) (b : Nat) (er pl sp h : Int) (rd : Nat → Int) (G9 W9 v : Int) : u2 (runM I b er pl sp h rd G9 W9) b 2 v = runM I b er pl sp h rd v W9 := by
  rw [u2_st]
  refine runM_ext ?_ ?_ ?_ fun a a0 a1 a2 => ?_
  · rw [va_up_s, runM_b, st1_c _ (show 3 ≠ 2 by omega), st1_2]
  · rw [va_up_n (by omega), runM_1]
  · rw [va_up_n (by omega), runM_2]
  · rw [va_up_n a0, runM_n _ _ _ _ _ _ _ _ _ _ a0 a1 a2]
theorem runM_w (I : MI) (b : Nat) (er pl sp h : Int) (rd : Nat → Int) (G9 W9 v : Int) : u2 (runM I b er pl sp h rd G9 W9) b 3 v = runM I b er pl sp h rd G9 v := by
  rw [u2_st]
  refine runM_ext ?_ ?_ ?_ fun a a0 a1 a2 => ?_
  · rw [va_up_s, runM_b, st1_2]
  · rw [va_up_n (by omega), runM_1]
  · rw [va_up_n (by omega), runM_2]
  · rw [va_up_n a0, runM_n _ _ _ _ _ _ _ _ _ _ a0 a1 a2]
theorem runM_0 (I : MI) (b : Nat) (er pl sp : Int) : u2 (u2 (va_up I (b + 2) (gR er pl sp (I (b + 2)))) b 2 0) b 3 0 = runM I b er pl sp 0 (I (b + 1)) 0 0 := by
  rw [u2_st _ b 2, u2_vst]
  refine runM_ext ?_ ?_ ?_ fun a a0 a1 a2 => ?_
  · rw [va_up_s, va_up_n (by omega)]
  · rw [va_up_n (by omega), va_up_n (by omega)]
  · rw [va_up_n (by omega), va_up_s]
    funext j
    unfold st1
    by_cases h : j = 3
    · rw [if_pos h, h, gR_3]
    · rw [if_neg h]
  · rw [va_up_n a0, va_up_n a2]
def prX (I : MI) (b n : Nat) (k : Nat) : Int := I (b + 4) (cntK n (k + 1))
def rdX (pr : Nat → Int) (er pl sp : Int) (old : Nat → Int) (i : Nat) : Nat → Int := fun j => if j < i then rdg pr er pl sp j else old j
theorem rdX_s (pr : Nat → Int) (er pl sp : Int) (old : Nat → Int) (i : Nat) : st1 (rdX pr er pl sp old i) i (rdg pr er pl sp i) = rdX pr er pl sp old (i + 1) := by
  funext j
  unfold st1 rdX
  by_cases h : j = i
  · subst h; rw [if_pos rfl, if_pos (by omega)]
  · rw [if_neg h]
    by_cases h2 : j < i
    · rw [if_pos h2, if_pos (by omega)]
    · rw [if_neg h2, if_neg (by omega)]
def grX (w : Nat → Int) (k : Nat) : Int := if k = 0 then 0 else grt w k
theorem grX_s (w : Nat → Int) (k : Nat) (hw : 0 ≤ w k) : grX w (k + 1) = if grX w k < w k then w k else grX w k := by
  unfold grX
  rw [if_neg (by omega)]
  show (if grt w k < w k then w k else grt w k) = _
  by_cases h : k = 0
  · subst h
    rw [if_pos rfl]
    show (if (-1 : Int) < w 0 then w 0 else -1) = _
    split <;> split <;> omega
  · rw [if_neg h]
theorem wsX_s (w : Nat → Int) (k : Nat) (hw : 0 ≤ w k) : wst w (k + 1) = if grX w k < w k then (k : Int) else wst w k := by
  show (if grt w k < w k then (k : Int) else wst w k) = _
  unfold grX
  by_cases h : k = 0
  · subst h
    rw [if_pos rfl]
    show (if (-1 : Int) < w 0 then ((0 : Nat) : Int) else 0) = _
    split <;> split <;> first | rfl | omega
  · rw [if_neg h]
theorem hnd_s (pr : Nat → Int) (e pl : Int) (k : Nat) : hnd pr e pl (k + 1) = goes (hnd pr e pl k) (pr k) e pl := rfl
theorem hnd_rX {pr : Nat → Int} {e pl : Int} (he : -99 ≤ e ∧ e ≤ 99) (hl : 0 ≤ pl ∧ pl ≤ 99) : ∀ k : Nat, (∀ j : Nat, j < k → 0 ≤ pr j ∧ pr j ≤ 14008600) → 0 ≤ hnd pr e pl k ∧ hnd pr e pl k ≤ 16000000
  | 0, _ => ⟨by show (0 : Int) ≤ 0; omega, by show (0 : Int) ≤ 16000000; omega⟩
  | k + 1, h => by
    rw [hnd_s]
    exact goes_rng (h k (by omega)) he hl (hnd_rX he hl k fun j hj => h j (by omega))
theorem rnd_step {h s : Int} (hh : 0 ≤ h ∧ h ≤ 16000000) (hs : 1 ≤ s ∧ s ≤ 99) : 0 ≤ rnd h s * s ∧ rnd h s * s ≤ 16000099 := by
  have hd := Int.mul_ediv_add_emod h s
  have h0 := Int.emod_nonneg h (show s ≠ 0 by omega)
  have h1 := Int.emod_lt_of_pos h (show 0 < s by omega)
  have hq := Int.ediv_nonneg hh.1 (show 0 ≤ s by omega)
  have hr := rnd_rng (b := s) hh.1 (by omega)
  have e : s * (h / s) = h / s * s := Int.mul_comm _ _
  have e2 : rnd h s * s ≤ (h / s + 1) * s := Int.mul_le_mul_of_nonneg_right hr.2.1 (by omega)
  have e3 : (h / s + 1) * s = h / s * s + s := by rw [Int.add_mul, Int.one_mul]
  have e4 : 0 ≤ rnd h s * s := Int.mul_nonneg hr.1 (by omega)
  omega
theorem grX_r {w : Nat → Int} : ∀ k : Nat, (∀ j : Nat, j < k → 0 ≤ w j ∧ w j ≤ 16100000) → 0 ≤ grX w k ∧ grX w k ≤ 16100000
  | 0, _ => ⟨by show (0 : Int) ≤ 0; omega, by show (0 : Int) ≤ 16100000; omega⟩
  | k + 1, h => by
    have ih := grX_r k fun j hj => h j (by omega)
    have := h k (by omega)
    rw [grX_s _ _ this.1]
    split <;> omega
set_option maxHeartbeats 4000000 in
set_option maxRecDepth 100000 in
theorem mX5_run (l : Launch) (G : GG) {z : Nat} {K N : Nat → Nat} {I : MI} {R : MR} {b a n : Nat} (hX : ShX G z K N R b) (ha : zK G z K a 1) (hab : ¬ a = b + 2) (hn : n ≤ 14) (hl : I b 1 = 2 * (n : Int)) (hP : ∀ j : Nat, j ≤ n → 0 ≤ I (b + 4) j ∧ I (b + 4) j ≤ 14008600) {er : Int} (her : -99 ≤ er ∧ er ≤ 99) (hpl : 0 ≤ I a 1 ∧ I a 1 ≤ 99) (hsp : 1 ≤ I a 2 ∧ I a 2 ≤ 99) : Cod l G yX5_run (Cond.code yX5_run cX5_run 6 none :: wsL_law) ⟨2, 0, 0, 44⟩ [.ref b, .ref a, .int (zI er)] z K N I R none (runM I b er (I a 1) (I a 2) (hnd (prX I b n) er (I a 1) (2 * n)) (rdX (prX I b n) er (I a 1) (I a 2) (I (b + 1)) (2 * n)) (grX (wrg (prX I b n) er (I a 1) (I a 2)) (2 * n)) (wst (wrg (prX I b n) er (I a 1) (I a 2)) (2 * n))) (u2 R (b + 2) 4 none) := by
  refine Con.of (own := RX5) (cc := cX5_run) (maxL := 6) (ret := none) (by decide +kernel) rfl rfl (Nat.le_of_ble_eq_true rfl) (by decide) rfl ?_
  intro p e9 s mt args below meth c Q hin hQ C
  obtain ⟨xo, ⟨x0, x4, x5, x6⟩, ⟨y1, y2, y3, y4⟩, w1, w3, w4⟩ := id hX
  have x0r : (u2 R (b + 2) 4 none) b 0 = some (b + 1) := by rw [u2_row (by omega)]; exact x0
  have x4r : (u2 R (b + 2) 4 none) b 4 = some (b + 2) := by rw [u2_row (by omega)]; exact x4
  have x6r : (u2 R (b + 2) 4 none) b 6 = some (b + 4) := by rw [u2_row (by omega)]; exact x6
  have hpr : ∀ k : Nat, k < 2 * n → 0 ≤ prX I b n k ∧ prX I b n k ≤ 14008600 := fun k hk => hP _ (by unfold cntK; split <;> omega)
  have hrd : ∀ k : Nat, k < 2 * n → 0 ≤ rdg (prX I b n) er (I a 1) (I a 2) k ∧ rdg (prX I b n) er (I a 1) (I a 2) k ≤ 16000099 := fun k hk => rnd_step (hnd_rX her hpl (k + 1) fun j hj => hpr j (by omega)) hsp
  have hwr : ∀ k : Nat, k < 2 * n → 0 ≤ wrg (prX I b n) er (I a 1) (I a 2) k ∧ wrg (prX I b n) er (I a 1) (I a 2) k ≤ 16100000 := fun k hk => by
    have h1 := hrd k hk
    have h2 := hpr k hk
    unfold wrg absz
    split <;> omega
  have hloop : ∀ (q i : Nat), i ≤ 2 * n → 2 * n - i < q → Zq p l e9 ⟨2, 0, 0, 44⟩ s mt args below meth c G 6 Q 0 0 z K N (runM I b er (I a 1) (I a 2) (hnd (prX I b n) er (I a 1) i) (rdX (prX I b n) er (I a 1) (I a 2) (I (b + 1)) i) (grX (wrg (prX I b n) er (I a 1) (I a 2)) i) (wst (wrg (prX I b n) er (I a 1) (I a 2)) i)) (u2 R (b + 2) 4 none) 28 [(0, .ref b), (1, .ref a), (2, .int (zI er)), (3, .int (zI (i : Int)))] [] := by
    intro q
    induction q with
    | zero => intro i h1 h2; exact absurd h2 (by omega)
    | succ q ih =>
      intro i h1 h2
      have hh := hnd_rX (pr := (prX I b n)) her hpl i fun j hj => hpr j (by omega)
      have hgr := grX_r (w := wrg (prX I b n) er (I a 1) (I a 2)) i fun j hj => hwr j (by omega)
      refine z_iload_n C dX5_run_28 rfl ?_
      refine z_aload_n C dX5_run_29 rfl ?_
      refine z_gI C (ci := 5) (k := 1) rfl (by decide) rfl (by decide) wl_5 wq_16_22 rfl dX5_run_30 (by assumption) ?_
      rw [runM_b, st1_n (by omega), st1_n (by omega), hl]
      refine z_icmp_ge C (tgt := 129) dX5_run_33 (by decide) (by first | omega | exact b2i_r) (by first | omega | exact b2i_r) (fun h33 => ?_) (fun h33 => ?_)
      · exact z_vret2 C hQ rfl dX5_run_129 ⟨rfl, rfl, rfl, rfl, by rw [show i = 2 * n by omega], rfl⟩
      · have hp9 := hpr i (by omega)
        have hw9 := hwr i (by omega)
        have hrd9 := hrd i (by omega)
        have hh9 := hnd_rX (pr := (prX I b n)) her hpl (i + 1) fun j hj => hpr j (by omega)
        refine z_aload_n C dX5_run_36 rfl ?_
        refine z_gR C (ci := 5) (k := 6) rfl (by decide) rfl (by decide) wl_5 wq_3_16 (by decide) dX5_run_37 (by assumption) (by assumption) ?_
        refine z_iload_n C dX5_run_40 rfl ?_
        refine z_aload_n C dX5_run_41 rfl ?_
        refine z_gI C (ci := 5) (k := 1) rfl (by decide) rfl (by decide) wl_5 wq_16_22 rfl dX5_run_42 (by assumption) ?_
        rw [runM_b, st1_n (by omega), st1_n (by omega), hl, show 2 * (n : Int) = ((2 * n : Nat) : Int) by omega]
        refine z_iconst C dX5_run_45 ?_
        refine z_idiv C dX5_run_46 (by omega) (by omega) ?_
        refine z_icmp_ge C (tgt := 56) dX5_run_47 (by decide) (by first | omega | exact b2i_r) (by first | omega | exact b2i_r) (fun h47 => ?_) (fun h47 => ?_)
        · refine z_aload_n C dX5_run_56 rfl ?_
          refine z_gI C (ci := 5) (k := 1) rfl (by decide) rfl (by decide) wl_5 wq_16_22 rfl dX5_run_57 (by assumption) ?_
          rw [runM_b, st1_n (by omega), st1_n (by omega), hl]
          refine z_iconst C dX5_run_60 ?_
          refine z_isub C dX5_run_61 ?_
          refine z_iload_n C dX5_run_62 rfl ?_
          refine z_isub C dX5_run_63 ?_
          have hc9 : (cntK n (i + 1) : Int) = (if i < n then (i : Int) + 1 else 2 * n - 1 - i) := by
            unfold cntK
            split <;> split <;> omega
          have hc8 : cntK n (i + 1) ≤ n := by unfold cntK; split <;> omega
          first | rw [if_pos (by omega)] at hc9 | rw [if_neg (by omega)] at hc9
          refine z_ialdk C (cntK n (i + 1)) dX5_run_64 (by assumption) (by first | rfl | omega) (by omega) (by omega) ?_
          have e9 : runM I b er (I a 1) (I a 2) (hnd (prX I b n) er (I a 1) i) (rdX (prX I b n) er (I a 1) (I a 2) (I (b + 1)) i) (grX (wrg (prX I b n) er (I a 1) (I a 2)) i) (wst (wrg (prX I b n) er (I a 1) (I a 2)) i) (b + 4) (cntK n (i + 1)) = prX I b n i := by rw [runM_n _ _ _ _ _ _ _ _ _ _ (by omega) (by omega) (by omega)]; rfl
          rw [e9]
          refine z_istore C dX5_run_65 (by decide) rfl ?_
          refine z_aload_n C dX5_run_67 rfl ?_
          refine z_gR C (ci := 5) (k := 4) rfl (by decide) rfl (by decide) wl_5 wq_3_14 (by decide) dX5_run_68 (by assumption) (by assumption) ?_
          refine z_iload C dX5_run_71 rfl ?_
          refine z_callVd C (ci := 1) rfl (by decide) (by first | assumption | exact hM.1) (mX1_follow l G y2 hp9 (by rw [runM_2, st1_n (by omega), gR_0]; exact her) (by rw [runM_2, st1_n (by omega), gR_1]; exact hpl) (by rw [runM_2, st1_s]; exact hh)) (cwV 1 C.2.2.2.2.1 gv5_67 rfl rfl rfl hd_X1_follow ⟨Nat.le_of_ble_eq_true rfl, Nat.le_of_ble_eq_true rfl⟩) rfl rfl (Nat.le_of_ble_eq_true rfl) dX5_run_73 ⟨Nat.zero_le _, Nat.zero_le _⟩ ?_
          rw [runM_2, st1_s, st1_n (by omega), gR_0, st1_n (by omega), gR_1, ← hnd_s, runM_h]
          refine z_aload_n C dX5_run_76 rfl ?_
          refine z_gR C (ci := 5) (k := 0) rfl (by decide) rfl (by decide) wl_5 wq_3_12 (by decide) dX5_run_77 (by assumption) (by assumption) ?_
          refine z_iload_n C dX5_run_80 rfl ?_
          refine z_aload_n C dX5_run_81 rfl ?_
          refine z_gR C (ci := 5) (k := 4) rfl (by decide) rfl (by decide) wl_5 wq_3_14 (by decide) dX5_run_82 (by assumption) (by assumption) ?_
          refine z_callVd C (ci := 1) rfl (by decide) (by first | assumption | exact hM.1) (mX1_shown l G y2 (by rw [runM_2, st1_s]; exact hh9) (by rw [runM_2, st1_n (by omega), gR_2]; exact hsp)) (cwV 0 C.2.2.2.2.1 gv5_71 rfl rfl rfl hd_X1_shown ⟨Nat.le_of_ble_eq_true rfl, Nat.le_of_ble_eq_true rfl⟩) rfl rfl (Nat.le_of_ble_eq_true rfl) dX5_run_85 ⟨Nat.zero_le _, Nat.zero_le _⟩ ?_
          rw [runM_2, st1_s, st1_n (by omega), gR_2, show rnd (hnd (prX I b n) er (I a 1) (i + 1)) (I a 2) * I a 2 = rdg (prX I b n) er (I a 1) (I a 2) i from rfl]
          refine z_iastk C (i) dX5_run_88 (by assumption) (by first | rfl | omega) (by omega) (by omega) ?_
          rw [runM_r, rdX_s]
          refine z_aload_n C dX5_run_89 rfl ?_
          refine z_gR C (ci := 5) (k := 0) rfl (by decide) rfl (by decide) wl_5 wq_3_12 (by decide) dX5_run_90 (by assumption) (by assumption) ?_
          refine z_iload_n C dX5_run_93 rfl ?_
          refine z_ialdk C (i) dX5_run_94 (by assumption) (by first | rfl | omega) (by omega) (by omega) ?_
          rw [runM_1, show rdX (prX I b n) er (I a 1) (I a 2) (I (b + 1)) (i + 1) i = rdg (prX I b n) er (I a 1) (I a 2) i from if_pos (by omega)]
          refine z_iload C dX5_run_95 rfl ?_
          refine z_isub C dX5_run_97 ?_
          refine z_abs C wq_17_12 wq_7_5 wq_7_6 wq_7_7 (Nat.le_of_ble_eq_true rfl) (Nat.le_of_ble_eq_true rfl) (Nat.zero_le _) (Nat.zero_le _) dX5_run_98 (by omega) ?_
          rw [show (if 0 ≤ rdg (prX I b n) er (I a 1) (I a 2) i - prX I b n i then rdg (prX I b n) er (I a 1) (I a 2) i - prX I b n i else -(rdg (prX I b n) er (I a 1) (I a 2) i - prX I b n i)) = wrg (prX I b n) er (I a 1) (I a 2) i from by unfold wrg absz; split <;> split <;> omega]
          refine z_istore C dX5_run_101 (by decide) rfl ?_
          refine z_iload C dX5_run_103 rfl ?_
          refine z_aload_n C dX5_run_105 rfl ?_
          refine z_gI C (ci := 5) (k := 2) rfl (by decide) rfl (by decide) wl_5 wq_17_10 rfl dX5_run_106 (by assumption) ?_
          rw [runM_b, st1_n (by omega), st1_s]
          refine z_icmp_le C (tgt := 123) dX5_run_109 (by decide) (by first | omega | exact b2i_r) (by first | omega | exact b2i_r) (fun h109 => ?_) (fun h109 => ?_)
          · first
            | (rw [runM_w]; refine z_mem (I' := runM I b er (I a 1) (I a 2) (hnd (prX I b n) er (I a 1) (i + 1)) (rdX (prX I b n) er (I a 1) (I a 2) (I (b + 1)) (i + 1)) (grX (wrg (prX I b n) er (I a 1) (I a 2)) (i + 1)) (wst (wrg (prX I b n) er (I a 1) (I a 2)) (i + 1))) (by rw [grX_s _ _ hw9.1, wsX_s _ _ hw9.1, if_pos (by omega), if_pos (by omega)]) rfl ?_)
            | refine z_mem (I' := runM I b er (I a 1) (I a 2) (hnd (prX I b n) er (I a 1) (i + 1)) (rdX (prX I b n) er (I a 1) (I a 2) (I (b + 1)) (i + 1)) (grX (wrg (prX I b n) er (I a 1) (I a 2)) (i + 1)) (wst (wrg (prX I b n) er (I a 1) (I a 2)) (i + 1))) (by rw [grX_s _ _ hw9.1, wsX_s _ _ hw9.1, if_neg (by omega), if_neg (by omega)]) rfl ?_
            refine z_iinc C dX5_run_123 rfl (by decide) rfl ?_
            refine z_goto C (tgt := 28) dX5_run_126 (by decide) ?_
            rw [show (i : Int) + 1 = ((i + 1 : Nat) : Int) by omega]
            exact z_sub [0, 1, 2, 3] rfl rfl (ih (i + 1) (by omega) (by omega))
          · refine z_aload_n C dX5_run_112 rfl ?_
            refine z_iload C dX5_run_113 rfl ?_
            refine z_pI C (ci := 5) (k := 2) rfl (by decide) rfl (by decide) tyX5_ok nmX5 wl_5 wq_17_10 rfl (Or.inl rfl) dX5_run_115 (by assumption) ?_
            rw [runM_g]
            refine z_aload_n C dX5_run_118 rfl ?_
            refine z_iload_n C dX5_run_119 rfl ?_
            refine z_pI C (ci := 5) (k := 3) rfl (by decide) rfl (by decide) tyX5_ok nmX5 wl_5 wq_17_11 rfl (Or.inl rfl) dX5_run_120 (by assumption) ?_
            first
            | (rw [runM_w]; refine z_mem (I' := runM I b er (I a 1) (I a 2) (hnd (prX I b n) er (I a 1) (i + 1)) (rdX (prX I b n) er (I a 1) (I a 2) (I (b + 1)) (i + 1)) (grX (wrg (prX I b n) er (I a 1) (I a 2)) (i + 1)) (wst (wrg (prX I b n) er (I a 1) (I a 2)) (i + 1))) (by rw [grX_s _ _ hw9.1, wsX_s _ _ hw9.1, if_pos (by omega), if_pos (by omega)]) rfl ?_)
            | refine z_mem (I' := runM I b er (I a 1) (I a 2) (hnd (prX I b n) er (I a 1) (i + 1)) (rdX (prX I b n) er (I a 1) (I a 2) (I (b + 1)) (i + 1)) (grX (wrg (prX I b n) er (I a 1) (I a 2)) (i + 1)) (wst (wrg (prX I b n) er (I a 1) (I a 2)) (i + 1))) (by rw [grX_s _ _ hw9.1, wsX_s _ _ hw9.1, if_neg (by omega), if_neg (by omega)]) rfl ?_
            refine z_iinc C dX5_run_123 rfl (by decide) rfl ?_
            refine z_goto C (tgt := 28) dX5_run_126 (by decide) ?_
            rw [show (i : Int) + 1 = ((i + 1 : Nat) : Int) by omega]
            exact z_sub [0, 1, 2, 3] rfl rfl (ih (i + 1) (by omega) (by omega))
        · refine z_iload_n C dX5_run_50 rfl ?_
          refine z_iconst C dX5_run_51 ?_
          refine z_iadd C dX5_run_52 ?_
          refine z_goto C (tgt := 64) dX5_run_53 (by decide) ?_
          have hc9 : (cntK n (i + 1) : Int) = (if i < n then (i : Int) + 1 else 2 * n - 1 - i) := by
            unfold cntK
            split <;> split <;> omega
          have hc8 : cntK n (i + 1) ≤ n := by unfold cntK; split <;> omega
          first | rw [if_pos (by omega)] at hc9 | rw [if_neg (by omega)] at hc9
          refine z_ialdk C (cntK n (i + 1)) dX5_run_64 (by assumption) (by first | rfl | omega) (by omega) (by omega) ?_
          have e9 : runM I b er (I a 1) (I a 2) (hnd (prX I b n) er (I a 1) i) (rdX (prX I b n) er (I a 1) (I a 2) (I (b + 1)) i) (grX (wrg (prX I b n) er (I a 1) (I a 2)) i) (wst (wrg (prX I b n) er (I a 1) (I a 2)) i) (b + 4) (cntK n (i + 1)) = prX I b n i := by rw [runM_n _ _ _ _ _ _ _ _ _ _ (by omega) (by omega) (by omega)]; rfl
          rw [e9]
          refine z_istore C dX5_run_65 (by decide) rfl ?_
          refine z_aload_n C dX5_run_67 rfl ?_
          refine z_gR C (ci := 5) (k := 4) rfl (by decide) rfl (by decide) wl_5 wq_3_14 (by decide) dX5_run_68 (by assumption) (by assumption) ?_
          refine z_iload C dX5_run_71 rfl ?_
          refine z_callVd C (ci := 1) rfl (by decide) (by first | assumption | exact hM.1) (mX1_follow l G y2 hp9 (by rw [runM_2, st1_n (by omega), gR_0]; exact her) (by rw [runM_2, st1_n (by omega), gR_1]; exact hpl) (by rw [runM_2, st1_s]; exact hh)) (cwV 1 C.2.2.2.2.1 gv5_67 rfl rfl rfl hd_X1_follow ⟨Nat.le_of_ble_eq_true rfl, Nat.le_of_ble_eq_true rfl⟩) rfl rfl (Nat.le_of_ble_eq_true rfl) dX5_run_73 ⟨Nat.zero_le _, Nat.zero_le _⟩ ?_
          rw [runM_2, st1_s, st1_n (by omega), gR_0, st1_n (by omega), gR_1, ← hnd_s, runM_h]
          refine z_aload_n C dX5_run_76 rfl ?_
          refine z_gR C (ci := 5) (k := 0) rfl (by decide) rfl (by decide) wl_5 wq_3_12 (by decide) dX5_run_77 (by assumption) (by assumption) ?_
          refine z_iload_n C dX5_run_80 rfl ?_
          refine z_aload_n C dX5_run_81 rfl ?_
          refine z_gR C (ci := 5) (k := 4) rfl (by decide) rfl (by decide) wl_5 wq_3_14 (by decide) dX5_run_82 (by assumption) (by assumption) ?_
          refine z_callVd C (ci := 1) rfl (by decide) (by first | assumption | exact hM.1) (mX1_shown l G y2 (by rw [runM_2, st1_s]; exact hh9) (by rw [runM_2, st1_n (by omega), gR_2]; exact hsp)) (cwV 0 C.2.2.2.2.1 gv5_71 rfl rfl rfl hd_X1_shown ⟨Nat.le_of_ble_eq_true rfl, Nat.le_of_ble_eq_true rfl⟩) rfl rfl (Nat.le_of_ble_eq_true rfl) dX5_run_85 ⟨Nat.zero_le _, Nat.zero_le _⟩ ?_
          rw [runM_2, st1_s, st1_n (by omega), gR_2, show rnd (hnd (prX I b n) er (I a 1) (i + 1)) (I a 2) * I a 2 = rdg (prX I b n) er (I a 1) (I a 2) i from rfl]
          refine z_iastk C (i) dX5_run_88 (by assumption) (by first | rfl | omega) (by omega) (by omega) ?_
          rw [runM_r, rdX_s]
          refine z_aload_n C dX5_run_89 rfl ?_
          refine z_gR C (ci := 5) (k := 0) rfl (by decide) rfl (by decide) wl_5 wq_3_12 (by decide) dX5_run_90 (by assumption) (by assumption) ?_
          refine z_iload_n C dX5_run_93 rfl ?_
          refine z_ialdk C (i) dX5_run_94 (by assumption) (by first | rfl | omega) (by omega) (by omega) ?_
          rw [runM_1, show rdX (prX I b n) er (I a 1) (I a 2) (I (b + 1)) (i + 1) i = rdg (prX I b n) er (I a 1) (I a 2) i from if_pos (by omega)]
          refine z_iload C dX5_run_95 rfl ?_
          refine z_isub C dX5_run_97 ?_
          refine z_abs C wq_17_12 wq_7_5 wq_7_6 wq_7_7 (Nat.le_of_ble_eq_true rfl) (Nat.le_of_ble_eq_true rfl) (Nat.zero_le _) (Nat.zero_le _) dX5_run_98 (by omega) ?_
          rw [show (if 0 ≤ rdg (prX I b n) er (I a 1) (I a 2) i - prX I b n i then rdg (prX I b n) er (I a 1) (I a 2) i - prX I b n i else -(rdg (prX I b n) er (I a 1) (I a 2) i - prX I b n i)) = wrg (prX I b n) er (I a 1) (I a 2) i from by unfold wrg absz; split <;> split <;> omega]
          refine z_istore C dX5_run_101 (by decide) rfl ?_
          refine z_iload C dX5_run_103 rfl ?_
          refine z_aload_n C dX5_run_105 rfl ?_
          refine z_gI C (ci := 5) (k := 2) rfl (by decide) rfl (by decide) wl_5 wq_17_10 rfl dX5_run_106 (by assumption) ?_
          rw [runM_b, st1_n (by omega), st1_s]
          refine z_icmp_le C (tgt := 123) dX5_run_109 (by decide) (by first | omega | exact b2i_r) (by first | omega | exact b2i_r) (fun h109 => ?_) (fun h109 => ?_)
          · first
            | (rw [runM_w]; refine z_mem (I' := runM I b er (I a 1) (I a 2) (hnd (prX I b n) er (I a 1) (i + 1)) (rdX (prX I b n) er (I a 1) (I a 2) (I (b + 1)) (i + 1)) (grX (wrg (prX I b n) er (I a 1) (I a 2)) (i + 1)) (wst (wrg (prX I b n) er (I a 1) (I a 2)) (i + 1))) (by rw [grX_s _ _ hw9.1, wsX_s _ _ hw9.1, if_pos (by omega), if_pos (by omega)]) rfl ?_)
            | refine z_mem (I' := runM I b er (I a 1) (I a 2) (hnd (prX I b n) er (I a 1) (i + 1)) (rdX (prX I b n) er (I a 1) (I a 2) (I (b + 1)) (i + 1)) (grX (wrg (prX I b n) er (I a 1) (I a 2)) (i + 1)) (wst (wrg (prX I b n) er (I a 1) (I a 2)) (i + 1))) (by rw [grX_s _ _ hw9.1, wsX_s _ _ hw9.1, if_neg (by omega), if_neg (by omega)]) rfl ?_
            refine z_iinc C dX5_run_123 rfl (by decide) rfl ?_
            refine z_goto C (tgt := 28) dX5_run_126 (by decide) ?_
            rw [show (i : Int) + 1 = ((i + 1 : Nat) : Int) by omega]
            exact z_sub [0, 1, 2, 3] rfl rfl (ih (i + 1) (by omega) (by omega))
          · refine z_aload_n C dX5_run_112 rfl ?_
            refine z_iload C dX5_run_113 rfl ?_
            refine z_pI C (ci := 5) (k := 2) rfl (by decide) rfl (by decide) tyX5_ok nmX5 wl_5 wq_17_10 rfl (Or.inl rfl) dX5_run_115 (by assumption) ?_
            rw [runM_g]
            refine z_aload_n C dX5_run_118 rfl ?_
            refine z_iload_n C dX5_run_119 rfl ?_
            refine z_pI C (ci := 5) (k := 3) rfl (by decide) rfl (by decide) tyX5_ok nmX5 wl_5 wq_17_11 rfl (Or.inl rfl) dX5_run_120 (by assumption) ?_
            first
            | (rw [runM_w]; refine z_mem (I' := runM I b er (I a 1) (I a 2) (hnd (prX I b n) er (I a 1) (i + 1)) (rdX (prX I b n) er (I a 1) (I a 2) (I (b + 1)) (i + 1)) (grX (wrg (prX I b n) er (I a 1) (I a 2)) (i + 1)) (wst (wrg (prX I b n) er (I a 1) (I a 2)) (i + 1))) (by rw [grX_s _ _ hw9.1, wsX_s _ _ hw9.1, if_pos (by omega), if_pos (by omega)]) rfl ?_)
            | refine z_mem (I' := runM I b er (I a 1) (I a 2) (hnd (prX I b n) er (I a 1) (i + 1)) (rdX (prX I b n) er (I a 1) (I a 2) (I (b + 1)) (i + 1)) (grX (wrg (prX I b n) er (I a 1) (I a 2)) (i + 1)) (wst (wrg (prX I b n) er (I a 1) (I a 2)) (i + 1))) (by rw [grX_s _ _ hw9.1, wsX_s _ _ hw9.1, if_neg (by omega), if_neg (by omega)]) rfl ?_
            refine z_iinc C dX5_run_123 rfl (by decide) rfl ?_
            refine z_goto C (tgt := 28) dX5_run_126 (by decide) ?_
            rw [show (i : Int) + 1 = ((i + 1 : Nat) : Int) by omega]
            exact z_sub [0, 1, 2, 3] rfl rfl (ih (i + 1) (by omega) (by omega))
  refine z_aload_n C dX5_run_0 rfl ?_
  refine z_gR C (ci := 5) (k := 4) rfl (by decide) rfl (by decide) wl_5 wq_3_14 (by decide) dX5_run_1 (by assumption) (by assumption) ?_
  refine z_iload_n C dX5_run_4 rfl ?_
  refine z_aload_n C dX5_run_5 rfl ?_
  refine z_gI C (ci := 1) (k := 1) rfl (by decide) rfl (by decide) wl_1 wq_17_8 rfl dX5_run_6 (by assumption) ?_
  refine z_aload_n C dX5_run_9 rfl ?_
  refine z_gI C (ci := 1) (k := 2) rfl (by decide) rfl (by decide) wl_1 wq_17_9 rfl dX5_run_10 (by assumption) ?_
  refine z_callVd C (ci := 1) rfl (by decide) (by first | assumption | exact hM.1) (mX1_begin l G y2) (cwV 3 C.2.2.2.2.1 gv5_57 rfl rfl rfl hd_X1_begin ⟨Nat.le_of_ble_eq_true rfl, Nat.le_of_ble_eq_true rfl⟩) rfl rfl (Nat.le_of_ble_eq_true rfl) dX5_run_13 ⟨Nat.zero_le _, Nat.zero_le _⟩ ?_
  rw [show (st1 (st1 (st1 (st1 (I (b + 2)) 0 er) 1 (I a 1)) 2 (I a 2)) 3 0) = gR er (I a 1) (I a 2) (I (b + 2)) from rfl]
  refine z_aload_n C dX5_run_16 rfl ?_
  refine z_iconst C dX5_run_17 ?_
  refine z_pI C (ci := 5) (k := 2) rfl (by decide) rfl (by decide) tyX5_ok nmX5 wl_5 wq_17_10 rfl (Or.inl rfl) dX5_run_18 (by assumption) ?_
  refine z_aload_n C dX5_run_21 rfl ?_
  refine z_iconst C dX5_run_22 ?_
  refine z_pI C (ci := 5) (k := 3) rfl (by decide) rfl (by decide) tyX5_ok nmX5 wl_5 wq_17_11 rfl (Or.inl rfl) dX5_run_23 (by assumption) ?_
  refine z_iconst C dX5_run_26 ?_
  refine z_istore_n C dX5_run_27 (by decide) rfl ?_
  refine z_mem (runM_0 I b er (I a 1) (I a 2)) rfl ?_
  exact hloop (2 * n + 1) 0 (by omega) (by omega)

