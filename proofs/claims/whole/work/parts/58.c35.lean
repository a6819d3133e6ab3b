/-! the text of the class and the model's -/
theorem tnL_nn {P : Nat → Int} : ∀ (n : Nat) (v : Int) (f : Nat → Int), 0 ≤ v → 0 ≤ (tnL P n v f).1
  | 0, v, f, h => h
  | n + 1, v, f, h => by
    rw [tnL_s]
    by_cases c : (0 < v ∧ v < 1000) ∧ isDg P f
    · rw [if_pos c]
      refine tnL_nn n _ _ ?_
      have hd : tdV P f = chF P f (f 11) - 48 := if_pos c.2
      have h2 : 48 ≤ chF P f (f 11) ∧ _ := c.2
      rw [hd]; omega
    · rw [if_neg c]; exact h
theorem tn_dg {P f : Nat → Int} (h : isDg P f) : 0 ≤ tnV P f := by
  refine tnL_nn 3 _ _ ?_
  have hd : tdV P f = chF P f (f 11) - 48 := if_pos h
  have h2 : 48 ≤ chF P f (f 11) ∧ _ := h
  rw [hd]; omega
theorem tn_no {P f : Nat → Int} (h : ¬ isDg P f) : tnV P f = -1 ∧ tnF P f = f := by
  have h1 : tdV P f = -1 := if_neg h
  have h2 : tdF P f = f := if_neg h
  unfold tnV tnF
  rw [h1, h2, tnL_0 3 (by omega)]
  exact ⟨rfl, rfl⟩
theorem tn_b {P f : Nat → Int} : b2i (isDg P f) = b2i (0 ≤ tnV P f) := by
  by_cases h : isDg P f
  · rw [b2i_t h, b2i_t (tn_dg h)]
  · rw [b2i_f h, b2i_f (by rw [(tn_no h).1]; omega)]
theorem td_b {P f : Nat → Int} : b2i (isDg P f) = b2i (0 ≤ tdV P f) := by
  by_cases h : isDg P f
  · have hd : tdV P f = chF P f (f 11) - 48 := if_pos h
    have h2 : 48 ≤ chF P f (f 11) ∧ _ := h
    rw [b2i_t h, b2i_t (by rw [hd]; omega)]
  · have hd : tdV P f = -1 := if_neg h
    rw [b2i_f h, b2i_f (by rw [hd]; omega)]
theorem Sm.symm {f g : Nat → Int} (h : Sm f g) : Sm g f := ⟨h.1.symm, h.2.symm⟩
theorem Sm.trans {f g k : Nat → Int} (h : Sm f g) (h2 : Sm g k) : Sm f k := ⟨h.1.trans h2.1, h.2.trans h2.2⟩
theorem Sm.refl (f : Nat → Int) : Sm f f := ⟨rfl, rfl⟩
theorem Sm.r1 {f g : Nat → Int} (h : Sm f g) (k : Nat) (w : Int) (hk : 11 < k) : Sm f (st1 g k w) := ⟨by rw [st1_n (by omega)]; exact h.1, by rw [st1_n (by omega)]; exact h.2⟩
theorem rnG_sm (P g : Nat → Int) : Sm (md (rnG P g)) (tnF P (md g)) := by
  by_cases h : isDg P (md g)
  · rw [show rnG P g = st1 g 4 (tnF P (md g) 11) from if_pos h, md_c]
    exact ⟨by rw [st1_n (by omega)]; exact (Fwd.tn P (md g)).1.symm, st1_s _ _ _⟩
  · rw [show rnG P g = g from if_neg h, (tn_no h).2]
    exact Sm.refl _
theorem rvG_rn (P g : Nat → Int) : rvG P g = rnG P (rvg P g) := rfl
theorem cm_n (P f : Nat → Int) {v : Int} (h : v < 0) : cmV P f v = -1 ∧ cmF P f v = f := ⟨if_pos h, if_pos h⟩
theorem cm_0 (P f : Nat → Int) {v : Int} (h : ¬ v < 0) (h2 : nxB P f 44 = 0) : cmV P f v = -1 ∧ cmF P f v = nxF P f 44 := ⟨(if_neg h).trans (if_pos h2), (if_neg h).trans (if_pos h2)⟩
theorem cm_1 (P f : Nat → Int) {v : Int} (h : ¬ v < 0) (h2 : ¬ nxB P f 44 = 0) : cmV P f v = tnV P (nxF P f 44) ∧ cmF P f v = tnF P (nxF P f 44) := ⟨(if_neg h).trans (if_neg h2), (if_neg h).trans (if_neg h2)⟩
/-- a gauge's order -/
theorem ga_eq (P nu g : Nat → Int) : gaB P g = b2i (0 ≤ rg3 P (md g) 15) ∧ Sm (md (gaG P g)) (rg3 P (md g)) ∧ (¬ gaB P g = 0 → gaN P nu g 0 = rg3 P (md g) 13 ∧ gaN P nu g 1 = rg3 P (md g) 14 ∧ gaN P nu g 2 = rg3 P (md g) 15) := by
  have e0 : md (rvg P g) = nxF P (md g) 45 := rvg_md P g
  have eA : Sm (md (rvG P g)) (rg1 P (md g)) := by
    rw [rvG_rn]
    refine Sm.r1 ?_ 13 _ (by omega)
    have := rnG_sm P (rvg P g)
    rw [e0] at this
    exact this
  have v0 : rgv P (md g) = tnV P (md (rvg P g)) := by rw [e0]; rfl
  have c13 : rg3 P (md g) 13 = if nxB P (md g) 45 = 0 then tnV P (md (rvg P g)) else -tnV P (md (rvg P g)) := by rw [rg3_13, rg1_13, v0]
  have c14 : rg3 P (md g) 14 = cmV P (rg1 P (md g)) (rgv P (md g)) := by rw [rg3_14, rg2_14]
  have c15 : rg3 P (md g) 15 = cmV P (rg2 P (md g)) (rg2 P (md g) 14) := rg3_15 _ _
  have s3 : ∀ a : Nat → Int, Sm a (cmF P (rg2 P (md g)) (rg2 P (md g) 14)) → Sm a (rg3 P (md g)) := fun a h => h.r1 15 _ (by omega)
  have s2 : ∀ a : Nat → Int, Sm a (cmF P (rg1 P (md g)) (rgv P (md g))) → Sm a (rg2 P (md g)) := fun a h => h.r1 14 _ (by omega)
  rw [← rg2_14] at c14
  unfold gaB gaG gaN
  by_cases h0 : isDg P (md (rvg P g))
  · have p0 : ¬ rgv P (md g) < 0 := by rw [v0]; have := tn_dg h0; omega
    rw [if_pos h0, if_pos h0, if_pos h0]
    have rv : rvN P nu g = st1 nu 0 (rg3 P (md g) 13) := by
      unfold rvN
      rw [if_pos h0, c13]
    by_cases h1 : nxB P (md (rvG P g)) 44 = 0
    · rw [if_pos h1, if_pos h1, if_pos h1]
      obtain ⟨a, b⟩ := cm_0 P (rg1 P (md g)) p0 (by rw [← eA.e_nxB]; exact h1)
      have q14 : rg2 P (md g) 14 = -1 := by rw [rg2_14, a]
      obtain ⟨a2, b2⟩ := cm_n P (rg2 P (md g)) (show rg2 P (md g) 14 < 0 by omega)
      refine ⟨?_, s3 _ ?_, fun z => absurd rfl z⟩
      · rw [c15, a2, b2i_f (by omega)]
      · rw [b2]
        refine s2 _ ?_
        rw [b, cmg_md]
        exact eA.nx 44
    · rw [if_neg h1, if_neg h1, if_neg h1]
      obtain ⟨a, b⟩ := cm_1 P (rg1 P (md g)) p0 (by rw [← eA.e_nxB]; exact h1)
      have eB : Sm (md (cmg P (rvG P g))) (nxF P (rg1 P (md g)) 44) := by rw [cmg_md]; exact eA.nx 44
      have q14 : rg2 P (md g) 14 = tnV P (md (cmg P (rvG P g))) := by rw [rg2_14, a, eB.e_tnV]
      have eC : Sm (md (rnG P (cmg P (rvG P g)))) (rg2 P (md g)) := by
        refine s2 _ ?_
        rw [b]
        exact (rnG_sm P _).trans eB.tn
      by_cases h2 : isDg P (md (cmg P (rvG P g)))
      · rw [if_pos h2, if_pos h2, if_pos h2]
        have p2 : ¬ rg2 P (md g) 14 < 0 := by rw [q14]; have := tn_dg h2; omega
        have rn1 : rnN P 1 (rvN P nu g) (cmg P (rvG P g)) = st1 (rvN P nu g) 1 (rg3 P (md g) 14) := by
          unfold rnN
          rw [if_pos h2, c14, q14]
        by_cases h3 : nxB P (md (rnG P (cmg P (rvG P g)))) 44 = 0
        · rw [if_pos h3, if_pos h3, if_pos h3]
          obtain ⟨a2, b2⟩ := cm_0 P (rg2 P (md g)) p2 (by rw [← eC.e_nxB]; exact h3)
          refine ⟨?_, s3 _ ?_, fun z => absurd rfl z⟩
          · rw [c15, a2, b2i_f (by omega)]
          · rw [b2, cmg_md]
            exact eC.nx 44
        · rw [if_neg h3, if_neg h3, if_neg h3]
          obtain ⟨a2, b2⟩ := cm_1 P (rg2 P (md g)) p2 (by rw [← eC.e_nxB]; exact h3)
          have eD : Sm (md (cmg P (rnG P (cmg P (rvG P g))))) (nxF P (rg2 P (md g)) 44) := by rw [cmg_md]; exact eC.nx 44
          have q15 : rg3 P (md g) 15 = tnV P (md (cmg P (rnG P (cmg P (rvG P g))))) := by rw [c15, a2, eD.e_tnV]
          refine ⟨by rw [q15]; exact tn_b, s3 _ ?_, fun z => ?_⟩
          · rw [b2]
            exact (rnG_sm P _).trans eD.tn
          · have h4 : isDg P (md (cmg P (rnG P (cmg P (rvG P g))))) := b2i_1.mp z
            have rn2 : rnN P 2 (rnN P 1 (rvN P nu g) (cmg P (rvG P g))) (cmg P (rnG P (cmg P (rvG P g)))) = st1 (rnN P 1 (rvN P nu g) (cmg P (rvG P g))) 2 (rg3 P (md g) 15) := by
              show (if isDg P (md (cmg P (rnG P (cmg P (rvG P g))))) then _ else _) = _
              rw [if_pos h4, q15]
            rw [rn2, rn1, rv]
            refine ⟨?_, ?_, ?_⟩
            · rw [st1_n (by omega), st1_n (by omega), st1_s]
            · rw [st1_n (by omega), st1_s]
            · rw [st1_s]
      · rw [if_neg h2, if_neg h2, if_neg h2]
        have p2 : rg2 P (md g) 14 < 0 := by rw [q14, (tn_no h2).1]; omega
        obtain ⟨a2, b2⟩ := cm_n P (rg2 P (md g)) p2
        refine ⟨?_, s3 _ ?_, fun z => absurd rfl z⟩
        · rw [c15, a2, b2i_f (by omega)]
        · rw [b2]; exact eC
  · rw [if_neg h0, if_neg h0, if_neg h0]
    obtain ⟨a, b⟩ := cm_n P (rg1 P (md g)) (show rgv P (md g) < 0 by rw [v0, (tn_no h0).1]; omega)
    have q14 : rg2 P (md g) 14 = -1 := by rw [rg2_14, a]
    obtain ⟨a2, b2⟩ := cm_n P (rg2 P (md g)) (show rg2 P (md g) 14 < 0 by omega)
    refine ⟨?_, s3 _ ?_, fun z => absurd rfl z⟩
    · rw [c15, a2, b2i_f (by omega)]
    · rw [b2]
      refine s2 _ ?_
      rw [b]; exact eA
theorem sg_c {P g : Nat → Int} (h4 : 0 ≤ g 4) : (g 4 < g 2 ∧ sgV P g (g 4) = chF P (md g) (md g 11)) ∨ (¬ g 4 < g 2 ∧ sgV P g (g 4) = 0 ∧ chF P (md g) (md g 11) = -1) := by
  unfold sgV chF
  rw [md_11, md_6]
  by_cases h : g 4 < g 2
  · rw [if_pos ⟨h4, h⟩, if_pos h]; exact Or.inl ⟨h, rfl⟩
  · rw [if_neg (fun z => h z.2), if_neg h]; exact Or.inr ⟨h, rfl, rfl⟩
theorem g3_sm (P g : Nat → Int) : Sm (md (g3F P g)) (ro2 P (md g)) := by
  have f2 := Fwd.r2 P (md g)
  unfold g3F
  rw [md_c, md_k]
  exact ⟨by rw [st1_n (by omega)]; exact f2.1.symm, by rw [st1_s, ro2_11, md_11]⟩
theorem rn_1 (P g : Nat → Int) : rnG P g 1 = g 1 := by
  unfold rnG
  split
  · exact st1_n (by omega)
  · rfl
theorem cm_k1 (P g : Nat → Int) : cmg P g 1 = g 1 := st1_n (by omega)
theorem ga_1 (P g : Nat → Int) : gaG P g 1 = g 1 := by
  have e : rvG P g 1 = g 1 := by rw [rvG_rn, rn_1]; exact st1_n (by omega)
  unfold gaG
  (repeat' split) <;> simp only [rn_1, cm_k1, e]
/-- an order: whether it is whole, where it ends, its letter and numbers -/
theorem or_eq (P nu g : Nat → Int) (h4 : 0 ≤ g 4) : orB P g = roB P (md g) ∧ Sm (md (orG P g)) (roF P (md g)) ∧ (¬ orB P g = 0 → orG P g 1 = roF P (md g) 12 ∧ orN P nu g 0 = roF P (md g) 13 ∧ (roF P (md g) 12 = 103 → orN P nu g 1 = roF P (md g) 14 ∧ orN P nu g 2 = roF P (md g) 15)) := by
  have g3 := g3_sm P g
  have hsc := sg_c (P := P) h4
  have n1 : isNo (sgV P g (g 4)) ↔ isNo (chF P (md g) (md g 11)) := by omega
  have n2 : sgV P g (g 4) = 97 ↔ chF P (md g) (md g 11) = 97 := by omega
  have n3 : sgV P g (g 4) = 103 ↔ chF P (md g) (md g 11) = 103 := by omega
  have k1 : g3F P g 1 = sgV P g (g 4) := by unfold g3F; rw [st1_n (by omega), st1_s]
  have f12 : ∀ w : Nat → Int, Kp (ro2 P (md g)) w → w 12 = chF P (md g) (md g 11) := fun w hw => by rw [hw 12 (by omega), ro2_12]
  unfold orB orG orN roB roF
  by_cases c1 : isNo (chF P (md g) (md g 11))
  · have c1s := n1.mpr c1
    rw [if_pos c1s, if_pos c1s, if_pos c1s, if_pos c1, if_pos c1]
    refine ⟨by rw [tn_b, g3.e_tnV], ((rnG_sm P _).trans g3.tn).r1 13 _ (by omega), fun z => ?_⟩
    have hd : isDg P (md (g3F P g)) := b2i_1.mp z
    refine ⟨?_, ?_, fun y => ?_⟩
    · rw [rn_1, k1, st1_n (by omega), f12 _ (Kp.tn P _)]; omega
    · unfold rnN
      rw [if_pos hd, st1_s, st1_s, g3.e_tnV]
    · rw [st1_n (by omega), f12 _ (Kp.tn P _)] at y
      omega
  · have c1s : ¬ isNo (sgV P g (g 4)) := fun z => c1 (n1.mp z)
    rw [if_neg c1s, if_neg c1s, if_neg c1s, if_neg c1, if_neg c1]
    by_cases c2 : chF P (md g) (md g 11) = 97
    · have c2s := n2.mpr c2
      rw [if_pos c2s, if_pos c2s, if_pos c2s, if_pos c2, if_pos c2]
      refine ⟨by rw [td_b, g3.e_tdV], ?_, fun z => ?_⟩
      · refine Sm.r1 ?_ 13 _ (by omega)
        refine Sm.trans ?_ g3.td
        by_cases hd : isDg P (md (g3F P g))
        · rw [if_pos hd, ← md_td hd]; exact Sm.refl _
        · rw [if_neg hd, show tdF P (md (g3F P g)) = md (g3F P g) from if_neg hd]; exact Sm.refl _
      · have hd : isDg P (md (g3F P g)) := b2i_1.mp z
        rw [if_pos hd, if_pos hd]
        refine ⟨?_, ?_, fun y => ?_⟩
        · rw [st1_n (by omega), k1, st1_n (by omega), f12 _ (Kp.td P _)]; omega
        · rw [st1_s, st1_s, g3.e_tdV]
        · rw [st1_n (by omega), f12 _ (Kp.td P _)] at y
          omega
    · have c2s : ¬ sgV P g (g 4) = 97 := fun z => c2 (n2.mp z)
      rw [if_neg c2s, if_neg c2s, if_neg c2s, if_neg c2, if_neg c2]
      by_cases c3 : chF P (md g) (md g 11) = 103
      · have c3s := n3.mpr c3
        rw [if_pos c3s, if_pos c3s, if_pos c3s, if_pos c3, if_pos c3]
        obtain ⟨a, b, c⟩ := ga_eq P nu (g3F P g)
        refine ⟨by rw [a, g3.rg15], b.trans g3.e_rg3, fun z => ?_⟩
        obtain ⟨d0, d1, d2⟩ := c z
        refine ⟨?_, ?_, fun _ => ⟨?_, ?_⟩⟩
        · rw [ga_1, k1, rg3_12, ro2_12]; omega
        · rw [d0, rg3_13, rg3_13, rg1_13, rg1_13, g3.e_nxB, g3.e_rgv]
        · rw [d1, rg3_14, rg3_14, g3.rg14]
        · rw [d2, g3.rg15]
      · have c3s : ¬ sgV P g (g 4) = 103 := fun z => c3 (n3.mp z)
        rw [if_neg c3s, if_neg c3s, if_neg c3s, if_neg c3, if_neg c3]
        refine ⟨rfl, ?_, fun z => absurd rfl z⟩
        rw [md_k]
        have f2 := Fwd.r2 P (md g)
        exact ⟨by rw [st1_n (by omega)]; exact f2.1.symm, by rw [st1_s, ro2_11]; omega⟩
theorem ro_gt {P f : Nat → Int} (hr : ¬ roB P f = 0) : f 11 < roF P f 11 := by
  have h12 := ro2_11 P f
  unfold roF
  unfold roB at hr
  by_cases h1 : isNo (chF P f (f 11))
  · rw [if_pos h1, st1_n (by omega)]
    have := (Fwd.tn P (ro2 P f)).2.1
    omega
  · rw [if_neg h1] at hr ⊢
    by_cases h2 : chF P f (f 11) = 97
    · rw [if_pos h2, st1_n (by omega)]
      have := (Fwd.td P (ro2 P f)).2.1
      omega
    · rw [if_neg h2] at hr ⊢
      by_cases h3 : chF P f (f 11) = 103
      · rw [if_pos h3]
        have := (Fwd.rg P (ro2 P f)).2.1
        omega
      · rw [if_neg h3] at hr
        exact absurd rfl hr
/-- what the model's search answers behind a whole order -/
def ffK (P : Nat → Int) (n : Nat) (f : Nat → Int) : Int := if f 11 = f 6 then -6 else if nxB P f 59 = 0 then nxF P f 59 11 else (ffL P n (nxF P f 59)).1
theorem ffL_K (P : Nat → Int) (n : Nat) (f : Nat → Int) : (ffL P (n + 1) f).1 = if roB P f = 0 then roF P f 11 else ffK P n (roF P f) := by
  rw [ffL_s]
  unfold ffK
  (repeat' split) <;> rfl
theorem ffK_sm {P f g : Nat → Int} (n : Nat) (h : Sm f g) : ffK P n f = ffK P n g := by
  unfold ffK
  rw [h.1, h.2, h.e_nxB, (h.nx 59).2, Sm.e_ffL n _ _ (h.nx 59)]
def fcA (x : Int × (Nat → Int) × (Nat → Int)) : Int := if ¬ x.1 = 0 ∧ x.2.2 4 = x.2.2 2 then -6 else x.2.2 4
theorem fc_stop {P : Nat → Int} (q n : Nat) {B : Int} (nu : Nat → Int) {g : Nat → Int} (hB : ¬ B = 0) (hlt : ¬ g 4 < g 2) (hle : g 4 ≤ g 2) : fcA (fcL P q (B, nu, g)) = ffK P n (md g) := by
  rw [fcL_0 _ _ _ (fun z => hlt z.2)]
  show (if ¬ B = 0 ∧ g 4 = g 2 then (-6 : Int) else g 4) = _
  unfold ffK
  rw [if_pos ⟨hB, by omega⟩, if_pos (by rw [md_11, md_6]; omega)]
theorem fc_ff (P : Nat → Int) (q : Nat) : ∀ (n : Nat) (B : Int) (nu g : Nat → Int), TOk P (md g) → 0 < g 4 → ¬ B = 0 → g 2 - g 4 ≤ q → g 2 - g 4 ≤ n → fcA (fcL P q (B, nu, g)) = ffK P n (md g) := by
  induction q with
  | zero =>
    intro n B nu g hT h0 hB hq hn
    have t11 := hT.2.2
    rw [md_6, md_11] at t11
    exact fc_stop 0 n nu hB (by omega) t11.2
  | succ q ih =>
    intro n B nu g hT h0 hB hq hn
    have t11 := hT.2.2
    rw [md_6, md_11] at t11
    by_cases hlt : g 4 < g 2
    · obtain ⟨n, rfl⟩ : ∃ k, n = k + 1 := ⟨n - 1, by omega⟩
      rw [fcL_s, if_pos (show ¬ B = 0 ∧ g 4 < g 2 from ⟨hB, hlt⟩)]
      show fcA (fcL P q (noB P g, noN P nu g, noG P g)) = ffK P (n + 1) (md g)
      have eS : seG P g = st1 g 4 (g 4 + nxB P (md g) 59) := if_pos h0
      have eM : md (seG P g) = nxF P (md g) 59 := by rw [eS, ← md_nx]
      have h01 := nx_01 P (md g) 59
      unfold ffK
      rw [if_neg (show ¬ md g 11 = md g 6 by rw [md_11, md_6]; omega)]
      by_cases hx : nxB P (md g) 59 = 0
      · rw [if_pos hx]
        have e1 : noB P g = 0 := if_pos ⟨h0, hx⟩
        have e2 : noG P g = seG P g := if_pos ⟨h0, hx⟩
        rw [e1, fcL_0 _ _ _ (fun z => z.1 rfl)]
        show (if ¬ (0 : Int) = 0 ∧ _ then _ else noG P g 4) = _
        rw [if_neg (fun z => z.1 rfl), e2, ← eM, md_11]
      · rw [if_neg hx, ffL_K, ← eM]
        have e1 : noB P g = orB P (seG P g) := if_neg (fun z => hx z.2)
        have e2 : noG P g = orG P (seG P g) := if_neg (fun z => hx z.2)
        have e3 : noN P nu g = orN P nu (seG P g) := if_neg (fun z => hx z.2)
        have s4 : seG P g 4 = g 4 + nxB P (md g) 59 := by rw [eS, st1_s]
        have s2 : seG P g 2 = g 2 := by rw [eS, st1_n (by omega)]
        obtain ⟨o1, o2, -⟩ := or_eq P nu (seG P g) (by omega)
        rw [e1, e2, e3, o1]
        by_cases hr : roB P (md (seG P g)) = 0
        · rw [if_pos hr, hr, fcL_0 _ _ _ (fun z => z.1 rfl)]
          show (if ¬ (0 : Int) = 0 ∧ _ then _ else orG P (seG P g) 4) = _
          rw [if_neg (fun z => z.1 rfl)]
          exact o2.2
        · rw [if_neg hr, ← ffK_sm n o2]
          have hgt := ro_gt hr
          have o4 : orG P (seG P g) 4 = roF P (md (seG P g)) 11 := o2.2
          have o6 : orG P (seG P g) 2 = roF P (md (seG P g)) 6 := o2.1
          have f6 := (Fwd.ro P (md (seG P g))).1
          rw [md_11] at hgt
          rw [md_6] at f6
          exact ih n _ _ _ hT.e_seG.e_orG (by omega) hr (by omega) (by omega)
    · exact fc_stop (q + 1) n nu hB hlt t11.2
/-- the fault of a pad -/
theorem fcE_ffV {P nu g f : Nat → Int} (hP : POk P (g 2)) (h6 : f 6 = g 2) : fcA (fcE P nu g) = ffV P f := by
  have hT := hP.z4
  have e4 : st1 g 4 0 4 = 0 := st1_s _ _ _
  have e2 : st1 g 4 0 2 = g 2 := st1_n (by omega)
  have eS : seG P (st1 g 4 0) = st1 g 4 0 := if_neg (by omega)
  have e1 : noB P (st1 g 4 0) = orB P (st1 g 4 0) := by
    show (if 0 < st1 g 4 0 4 ∧ _ then _ else orB P (seG P (st1 g 4 0))) = _
    rw [if_neg (fun z => by have := z.1; omega), eS]
  have e5 : noG P (st1 g 4 0) = orG P (st1 g 4 0) := by
    show (if 0 < st1 g 4 0 4 ∧ _ then _ else orG P (seG P (st1 g 4 0))) = _
    rw [if_neg (fun z => by have := z.1; omega), eS]
  obtain ⟨o1, o2, -⟩ := or_eq P nu (st1 g 4 0) (by omega)
  have sm : Sm (md (st1 g 4 0)) (st1 f 11 0) := ⟨by rw [md_6, e2, st1_n (by omega), h6], by rw [md_11, e4, st1_s]⟩
  have h80 := hP.1
  unfold fcE ffV
  rw [← Sm.e_ffL 82 _ _ sm, ffL_K, e1, e5, o1]
  by_cases hr : roB P (md (st1 g 4 0)) = 0
  · rw [if_pos hr, hr, fcL_0 _ _ _ (fun z => z.1 rfl)]
    show (if ¬ (0 : Int) = 0 ∧ _ then _ else orG P (st1 g 4 0) 4) = _
    rw [if_neg (fun z => z.1 rfl)]
    exact o2.2
  · rw [if_neg hr, ← ffK_sm 81 o2]
    have hgt := ro_gt hr
    have o4 : orG P (st1 g 4 0) 4 = roF P (md (st1 g 4 0)) 11 := o2.2
    have o6 : orG P (st1 g 4 0) 2 = roF P (md (st1 g 4 0)) 6 := o2.1
    have f6 := (Fwd.ro P (md (st1 g 4 0))).1
    rw [md_11] at hgt
    rw [md_6] at f6
    exact fc_ff P 79 81 _ _ _ hT.e_orG (by omega) hr (by omega) (by omega)
