/-! what is read hangs on the place and the length only -/
def Sm (f g : Nat → Int) : Prop := f 6 = g 6 ∧ f 11 = g 11
theorem Sm.ch {P f g : Nat → Int} (h : Sm f g) : chF P f (f 11) = chF P g (g 11) := by unfold chF; rw [h.1, h.2]
theorem Sm.e_nxB {P f g : Nat → Int} (h : Sm f g) (w : Int) : nxB P f w = nxB P g w := by unfold nxB; rw [h.ch]
theorem Sm.at {f g : Nat → Int} (h : Sm f g) (v : Int) : Sm (atS f v) (atS g v) := by
  unfold atS
  exact ⟨by rw [st1_n (by omega), st1_n (by omega)]; exact h.1, by rw [st1_s, st1_s, h.2]⟩
theorem Sm.st {f g : Nat → Int} (h : Sm f g) (k : Nat) (v w : Int) (hk : 11 < k) : Sm (st1 f k v) (st1 g k w) :=
  ⟨by rw [st1_n (by omega), st1_n (by omega)]; exact h.1, by rw [st1_n (by omega), st1_n (by omega)]; exact h.2⟩
theorem Sm.nx {P f g : Nat → Int} (h : Sm f g) (w : Int) : Sm (nxF P f w) (nxF P g w) := by
  unfold nxF
  rw [h.e_nxB]
  exact h.at _
theorem Sm.dg {P f g : Nat → Int} (h : Sm f g) : isDg P f ↔ isDg P g := by
  show (48 ≤ chF P f (f 11) ∧ chF P f (f 11) ≤ 57) ↔ (48 ≤ chF P g (g 11) ∧ chF P g (g 11) ≤ 57)
  rw [h.ch]
theorem Sm.e_tdV {P f g : Nat → Int} (h : Sm f g) : tdV P f = tdV P g := by
  unfold tdV
  by_cases hd : isDg P f
  · rw [if_pos hd, if_pos (h.dg.mp hd), h.ch]
  · rw [if_neg hd, if_neg (fun z => hd (h.dg.mpr z))]
theorem Sm.td {P f g : Nat → Int} (h : Sm f g) : Sm (tdF P f) (tdF P g) := by
  unfold tdF
  by_cases hd : isDg P f
  · rw [if_pos hd, if_pos (h.dg.mp hd)]; exact h.at 1
  · rw [if_neg hd, if_neg (fun z => hd (h.dg.mpr z))]; exact h
theorem Sm.e_tnL {P : Nat → Int} : ∀ (n : Nat) (v : Int) (f g : Nat → Int), Sm f g → (tnL P n v f).1 = (tnL P n v g).1 ∧ Sm (tnL P n v f).2 (tnL P n v g).2
  | 0, _, _, _, h => ⟨rfl, h⟩
  | n + 1, v, f, g, h => by
    rw [tnL_s, tnL_s]
    by_cases hd : (0 < v ∧ v < 1000) ∧ isDg P f
    · rw [if_pos hd, if_pos ⟨hd.1, h.dg.mp hd.2⟩, h.e_tdV]
      exact Sm.e_tnL n _ _ _ h.td
    · rw [if_neg hd, if_neg (fun z => hd ⟨z.1, h.dg.mpr z.2⟩)]
      exact ⟨rfl, h⟩
theorem Sm.e_tnV {P f g : Nat → Int} (h : Sm f g) : tnV P f = tnV P g := by
  unfold tnV
  rw [h.e_tdV]
  exact (Sm.e_tnL 3 _ _ _ h.td).1
theorem Sm.tn {P f g : Nat → Int} (h : Sm f g) : Sm (tnF P f) (tnF P g) := by
  unfold tnF
  rw [h.e_tdV]
  exact (Sm.e_tnL 3 _ _ _ h.td).2
theorem Sm.e_cmV {P f g : Nat → Int} (h : Sm f g) (v : Int) : cmV P f v = cmV P g v := by
  unfold cmV
  rw [h.e_nxB, (h.nx 44).e_tnV]
theorem Sm.cm {P f g : Nat → Int} (h : Sm f g) (v : Int) : Sm (cmF P f v) (cmF P g v) := by
  unfold cmF
  rw [h.e_nxB]
  split
  · exact h
  · split
    · exact h.nx 44
    · exact (h.nx 44).tn
theorem Sm.e_rgv {P f g : Nat → Int} (h : Sm f g) : rgv P f = rgv P g := (h.nx 45).e_tnV
theorem Sm.e_rg1 {P f g : Nat → Int} (h : Sm f g) : Sm (rg1 P f) (rg1 P g) := (h.nx 45).tn.st _ _ _ (by omega)
theorem Sm.e_rg2 {P f g : Nat → Int} (h : Sm f g) : Sm (rg2 P f) (rg2 P g) := by
  unfold rg2
  rw [h.e_rgv]
  exact (h.e_rg1.cm _).st _ _ _ (by omega)
theorem rg1_13 (P f : Nat → Int) : rg1 P f 13 = if nxB P f 45 = 0 then rgv P f else -rgv P f := st1_s _ _ _
theorem rg2_14 (P f : Nat → Int) : rg2 P f 14 = cmV P (rg1 P f) (rgv P f) := st1_s _ _ _
theorem rg3_15 (P f : Nat → Int) : rg3 P f 15 = cmV P (rg2 P f) (rg2 P f 14) := st1_s _ _ _
theorem Sm.rg14 {P f g : Nat → Int} (h : Sm f g) : rg2 P f 14 = rg2 P g 14 := by rw [rg2_14, rg2_14, h.e_rgv, h.e_rg1.e_cmV]
theorem Sm.rg15 {P f g : Nat → Int} (h : Sm f g) : rg3 P f 15 = rg3 P g 15 := by rw [rg3_15, rg3_15, h.rg14, h.e_rg2.e_cmV]
theorem Sm.e_rg3 {P f g : Nat → Int} (h : Sm f g) : Sm (rg3 P f) (rg3 P g) := by
  unfold rg3
  rw [h.rg14]
  exact (h.e_rg2.cm _).st _ _ _ (by omega)
theorem Sm.r2 {P f g : Nat → Int} (h : Sm f g) : Sm (ro2 P f) (ro2 P g) := (h.st 12 _ _ (by omega)).at 1
theorem Sm.e_roB {P f g : Nat → Int} (h : Sm f g) : roB P f = roB P g := by
  unfold roB
  rw [h.ch, h.r2.e_tnV, h.r2.e_tdV, h.r2.rg15]
theorem Sm.ro {P f g : Nat → Int} (h : Sm f g) : Sm (roF P f) (roF P g) := by
  unfold roF
  rw [h.ch]
  split
  · exact h.r2.tn.st _ _ _ (by omega)
  · split
    · exact h.r2.td.st _ _ _ (by omega)
    · split
      · exact h.r2.e_rg3
      · exact ⟨by rw [st1_n (by omega), st1_n (by omega)]; exact h.r2.1, by rw [st1_s, st1_s, h.r2.2]⟩
theorem Sm.e_ffL {P : Nat → Int} : ∀ (n : Nat) (f g : Nat → Int), Sm f g → (ffL P n f).1 = (ffL P n g).1
  | 0, _, _, _ => rfl
  | n + 1, f, g, h => by
    have h2 := h.ro (P := P)
    have h3 := h2.nx (P := P) 59
    rw [ffL_s, ffL_s, h.e_roB, h2.e_nxB, h2.1, h2.2]
    split
    · rfl
    · split
      · rfl
      · split
        · exact h3.2
        · exact Sm.e_ffL n _ _ h3
/-! what an order says stays in its fields -/
def Kp (f g : Nat → Int) : Prop := ∀ j : Nat, 12 ≤ j → g j = f j
theorem Kp.rfl {f : Nat → Int} : Kp f f := fun _ _ => _root_.rfl
theorem Kp.trans {f g h : Nat → Int} (a : Kp f g) (b : Kp g h) : Kp f h := fun j hj => (b j hj).trans (a j hj)
theorem Kp.at (f : Nat → Int) (v : Int) : Kp f (atS f v) := fun j hj => st1_n (by omega)
theorem Kp.nx (P f : Nat → Int) (w : Int) : Kp f (nxF P f w) := Kp.at f _
theorem Kp.td (P f : Nat → Int) : Kp f (tdF P f) := by
  unfold tdF
  split
  · exact Kp.at f 1
  · exact Kp.rfl
theorem Kp.e_tnL {P : Nat → Int} : ∀ (n : Nat) (v : Int) (f : Nat → Int), Kp f (tnL P n v f).2
  | 0, _, _ => Kp.rfl
  | n + 1, v, f => by
    rw [tnL_s]
    split
    · exact (Kp.td P f).trans (Kp.e_tnL n _ _)
    · exact Kp.rfl
theorem Kp.tn (P f : Nat → Int) : Kp f (tnF P f) := (Kp.td P f).trans (Kp.e_tnL 3 _ _)
theorem Kp.cm (P f : Nat → Int) (v : Int) : Kp f (cmF P f v) := by
  unfold cmF
  split
  · exact Kp.rfl
  · split
    · exact Kp.nx P f 44
    · exact (Kp.nx P f 44).trans (Kp.tn _ _)
theorem ro2_12 (P f : Nat → Int) : ro2 P f 12 = chF P f (f 11) := by unfold ro2 atS; rw [st1_n (by omega), st1_s]
theorem rg3_12 (P f : Nat → Int) : rg3 P f 12 = f 12 := by
  unfold rg3 rg2 rg1
  rw [st1_n (by omega), Kp.cm _ _ _ 12 (by omega), st1_n (by omega), Kp.cm _ _ _ 12 (by omega), st1_n (by omega), Kp.tn _ _ 12 (by omega), Kp.nx _ _ _ 12 (by omega)]
theorem rg3_13 (P f : Nat → Int) : rg3 P f 13 = rg1 P f 13 := by
  unfold rg3 rg2
  rw [st1_n (by omega), Kp.cm _ _ _ 13 (by omega), st1_n (by omega), Kp.cm _ _ _ 13 (by omega)]
theorem rg3_14 (P f : Nat → Int) : rg3 P f 14 = rg2 P f 14 := by
  unfold rg3
  rw [st1_n (by omega), Kp.cm _ _ _ 14 (by omega)]
/-- the fields of an order are small -/
def FOk (f : Nat → Int) : Prop := ∀ j : Nat, 12 ≤ j → j ≤ 15 → -9999 ≤ f j ∧ f j ≤ 9999
theorem FOk.st {f : Nat → Int} (h : FOk f) (k : Nat) {v : Int} (hv : -9999 ≤ v ∧ v ≤ 9999) : FOk (st1 f k v) := fun j h1 h2 => by
  unfold st1
  split
  · exact hv
  · exact h j h1 h2
theorem FOk.kp {f g : Nat → Int} (h : FOk f) (k : Kp f g) : FOk g := fun j h1 h2 => by rw [k j h1]; exact h j h1 h2
theorem FOk.ro {P f : Nat → Int} (h : FOk f) (hT : TOk P f) : FOk (roF P f) := by
  have hc := chF_rng hT hT.2.2.1
  have h2 : FOk (ro2 P f) := (h.st 12 (by omega)).kp (Kp.at _ _)
  unfold roF
  split
  · have h9 := tnV_rng (hT.r2 (by omega))
    exact (h2.kp (Kp.tn _ _)).st 13 (by omega)
  · split
    · have := tdV_rng P (ro2 P f)
      exact (h2.kp (Kp.td _ _)).st 13 (by omega)
    · split
      · have hT2 := hT.r2 (by omega)
        have e1 := tnV_rng (hT2.nx (w := 45) (by omega))
        have e6 : rgv P (ro2 P f) = tnV P (nxF P (ro2 P f) 45) := rfl
        have e2 := cmV_rng hT2.rg1 (rgv P (ro2 P f))
        have e3 := cmV_rng hT2.rg2 (rg2 P (ro2 P f) 14)
        unfold rg3 rg2 rg1
        refine FOk.st (FOk.kp (FOk.st (FOk.kp (FOk.st ((h2.kp (Kp.nx _ _ _)).kp (Kp.tn _ _)) 13 ?_) (Kp.cm _ _ _)) 14 ?_) (Kp.cm _ _ _)) 15 ?_
        · split <;> omega
        · exact ⟨by have := e2.1; unfold rg1 at this; omega, by have := e2.2; unfold rg1 at this; omega⟩
        · exact ⟨by have := e3.1; unfold rg2 rg1 at this; omega, by have := e3.2; unfold rg2 rg1 at this; omega⟩
      · exact h2.kp (fun j hj => st1_n (by omega))
theorem FOk.nx {P f : Nat → Int} (h : FOk f) (w : Int) : FOk (nxF P f w) := h.kp (Kp.nx _ _ _)
theorem ro_a {P f : Nat → Int} (h : ¬ roB P f = 0) : roF P f 12 = chF P f (f 11) ∧ (isNo (roF P f 12) ∨ (roF P f 12 = 97 ∧ 0 ≤ roF P f 13 ∧ roF P f 13 ≤ 9) ∨ roF P f 12 = 103) := by
  unfold roB at h
  unfold roF
  by_cases h1 : isNo (chF P f (f 11))
  · rw [if_pos h1, st1_n (by omega), Kp.tn _ _ 12 (by omega), ro2_12]
    exact ⟨rfl, Or.inl h1⟩
  · rw [if_neg h1] at h ⊢
    by_cases h2 : chF P f (f 11) = 97
    · rw [if_pos h2] at h ⊢
      rw [st1_n (by omega), st1_s, Kp.td _ _ 12 (by omega), ro2_12]
      have := tdV_rng P (ro2 P f)
      exact ⟨rfl, Or.inr (Or.inl ⟨h2, b2i_1.mp h, this.2⟩)⟩
    · rw [if_neg h2] at h ⊢
      by_cases h3 : chF P f (f 11) = 103
      · rw [if_pos h3] at h ⊢
        rw [rg3_12, ro2_12]
        exact ⟨rfl, Or.inr (Or.inr h3)⟩
      · rw [if_neg h3] at h
        exact absurd rfl h
/-! an order is carried out -/
def wnP (S : Nat → Int) (w a b d : Int) : Int := if w = 43 then (if 0 ≤ a ∧ a ≤ S 3 - 1 then (if S 4 / 2 ^ a.toNat % 2 = 0 then 0 else -5) else -1) else if w = 45 then (if 0 ≤ a ∧ a ≤ S 3 - 1 then (if S 4 / 2 ^ a.toNat % 2 = 1 then 0 else -5) else -1) else if w = 103 then (if (-99 ≤ a ∧ a ≤ 99) ∧ (0 ≤ b ∧ b ≤ 99) ∧ (1 ≤ d ∧ d ≤ 99) then (if S 5 = 6 then -4 else 0) else -2) else if w = 109 then (if 1 ≤ a ∧ a ≤ 9999 then (if S 3 = 14 then -4 else 0) else -2) else if w = 116 then (if 0 ≤ a ∧ a ≤ S 5 - 1 then (if S 3 = 0 then -5 else 0) else -1) else 0
def doP (I : MI) (o : Nat) (w a b d : Int) : MI := if w = 43 ∨ w = 45 then va_up I (o + 1) (moveF (I (o + 1)) a.toNat) else if w = 103 then va_up I (o + 1) (gaugeF (I (o + 1)) a b d) else if w = 109 then va_up I (o + 1) (comesF (I (o + 1)) a) else if w = 116 then va_up (tstM I o (I (o + 1) (20 + 36 * a.toNat)) (I (o + 1) (21 + 36 * a.toNat)) (I (o + 1) (22 + 36 * a.toNat)) (2 * (I (o + 1) 3).toNat)) (o + 1) (certG (I (o + 1)) a.toNat) else va_up I (o + 1) (setsF (I (o + 1)) 0 a)
def wnM (I : MI) (o : Nat) : Int := wnP (I (o + 1)) (I o 12) (I o 13) (I o 14) (I o 15)
def doM (I : MI) (o : Nat) : MI := doP I o (I o 12) (I o 13) (I o 14) (I o 15)
def cR (J : MI) (o : Nat) : MI := va_up J o (nxF (J (o + 5)) (roF (J (o + 5)) (J o)) 59)
def coL (o : Nat) : Nat → MI → Nat → Nat × MI
  | 0, J, n => (n, J)
  | q + 1, J, n => if J o 11 < J o 6 then (if wnM (cR J o) o = 0 then coL o q (doM (cR J o) o) (n + 1) else (n, cR J o)) else (n, J)
theorem coL_s (o q : Nat) (J : MI) (n : Nat) : coL o (q + 1) J n = if J o 11 < J o 6 then (if wnM (cR J o) o = 0 then coL o q (doM (cR J o) o) (n + 1) else (n, cR J o)) else (n, J) := rfl
def coJ (I : MI) (o : Nat) : MI := u2 (recM (va_up I o (ffF (I (o + 5)) (I o))) o) o 11 0
theorem wnP_rng (S : Nat → Int) (w a b d : Int) : -5 ≤ wnP S w a b d ∧ wnP S w a b d ≤ 0 := by
  unfold wnP
  repeat' split
  all_goals omega
/-- carrying out leaves the model's other rows, and the state within its bounds -/
theorem doM_keep {I : MI} {o : Nat} (hO : Ok (I (o + 1))) (hw : wnM I o = 0) (hA : ¬ (I o 12 = 43 ∨ I o 12 = 45) → ¬ I o 12 = 103 → ¬ I o 12 = 109 → ¬ I o 12 = 116 → 0 ≤ I o 13 ∧ I o 13 ≤ 9) :
    Ok (doM I o (o + 1)) ∧ (∀ j : Nat, j ≠ 9 → j ≠ 10 → doM I o o j = I o j) ∧ ∀ b : Nat, b ≠ o → b ≠ o + 1 → b ≠ o + 6 → b ≠ o + 7 → doM I o b = I b := by
  unfold wnM wnP at hw
  unfold doM doP
  by_cases h1 : I o 12 = 43 ∨ I o 12 = 45
  · rw [if_pos h1]
    have hr : 0 ≤ I o 13 ∧ I o 13 ≤ I (o + 1) 3 - 1 := by
      rcases h1 with h | h
      · rw [if_pos h] at hw
        by_cases z : 0 ≤ I o 13 ∧ I o 13 ≤ I (o + 1) 3 - 1
        · exact z
        · rw [if_neg z] at hw; omega
      · rw [if_neg (by omega), if_pos h] at hw
        by_cases z : 0 ≤ I o 13 ∧ I o 13 ≤ I (o + 1) 3 - 1
        · exact z
        · rw [if_neg z] at hw; omega
    refine ⟨?_, fun j _ _ => by rw [va_up_n (by omega)], fun b _ hb _ _ => va_up_n hb⟩
    rw [va_up_s]
    exact (hO.h_movV (by omega)).h_handsF
  · rw [if_neg h1]
    rw [if_neg (fun z => h1 (Or.inl z)), if_neg (fun z => h1 (Or.inr z))] at hw
    by_cases h2 : I o 12 = 103
    · rw [if_pos h2] at hw ⊢
      have hr : ((-99 ≤ I o 13 ∧ I o 13 ≤ 99) ∧ (0 ≤ I o 14 ∧ I o 14 ≤ 99) ∧ (1 ≤ I o 15 ∧ I o 15 ≤ 99)) ∧ ¬ I (o + 1) 5 = 6 := by
        by_cases z : (-99 ≤ I o 13 ∧ I o 13 ≤ 99) ∧ (0 ≤ I o 14 ∧ I o 14 ≤ 99) ∧ (1 ≤ I o 15 ∧ I o 15 ≤ 99)
        · rw [if_pos z] at hw
          exact ⟨z, fun y => by rw [if_pos y] at hw; omega⟩
        · rw [if_neg z] at hw; omega
      have h5 := hO.2.2.2.2.2.1
      refine ⟨?_, fun j _ _ => by rw [va_up_n (by omega)], fun b _ hb _ _ => va_up_n hb⟩
      rw [va_up_s]
      exact (hO.h_gaugeV (by omega) hr.1.1 hr.1.2.1 hr.1.2.2).h_handG (by rw [show gaugeV (I (o + 1)) (I (o + 1) 5).toNat (I o 13) (I o 14) (I o 15) 5 = I (o + 1) 5 + 1 from st1_s _ _ _]; omega)
    · rw [if_neg h2] at hw ⊢
      by_cases h3 : I o 12 = 109
      · rw [if_pos h3] at hw ⊢
        have hr : (1 ≤ I o 13 ∧ I o 13 ≤ 9999) ∧ ¬ I (o + 1) 3 = 14 := by
          by_cases z : 1 ≤ I o 13 ∧ I o 13 ≤ 9999
          · rw [if_pos z] at hw
            exact ⟨z, fun y => by rw [if_pos y] at hw; omega⟩
          · rw [if_neg z] at hw; omega
        have h3 := hO.2.2.2.1
        refine ⟨?_, fun j _ _ => by rw [va_up_n (by omega)], fun b _ hb _ _ => va_up_n hb⟩
        rw [va_up_s]
        exact hO.comes (by omega) hr.1
      · rw [if_neg h3] at hw ⊢
        by_cases h4 : I o 12 = 116
        · rw [if_pos h4] at hw ⊢
          refine ⟨?_, fun j j1 j2 => by rw [va_up_n (by omega), tstM_j _ _ _ _ _ _ _ j1 j2], fun b b0 b1 b6 b7 => by rw [va_up_n b1, tstM_r _ _ _ _ _ _ _ b0 b6 b7]⟩
          rw [va_up_s]
          exact hO.cert _
        · rw [if_neg h4]
          refine ⟨?_, fun j _ _ => by rw [va_up_n (by omega)], fun b _ hb _ _ => va_up_n hb⟩
          rw [va_up_s]
          exact (hO.h_setsV (Or.inl ⟨rfl, hA h1 h2 h3 h4⟩)).h_handsF
