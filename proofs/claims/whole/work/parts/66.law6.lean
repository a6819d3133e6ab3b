theorem lw_nIof (y : Int32) : nI y.toBitVec.toNat = y := Int32.toBitVec_inj.1 (by
  show BitVec.ofNat 32 y.toBitVec.toNat = y.toBitVec
  simp)
theorem lw_31 (y : Int32) : ∃ w : Nat, w ≤ 31 ∧ y &&& zI 31 = zI (w : Int) := by
  refine ⟨y.toBitVec.toNat &&& 31, Nat.and_le_right, ?_⟩
  have e : zI 31 = nI 31 := rfl
  rw [zI_nI, ← nx_and, lw_nIof, e]
theorem lw_fin {p : Program} {l : Launch} {e : Env} {s : State} {m : MethodId} {below : List Frame} {meth : Method} {c : Code} {G : GG} {b : Nat} (C : Cx p l e room_1 s m #[Value.ref b] below meth c G cL_law 4 RL ret) {L : Nat} {xs : Nat → Int32} (hX : va_X b L xs s G.2.2) (hb0 : b < G.2.2.size) (hL8 : L ≤ 2048) (hG : G.2.2 = s.heap) {cells slots z : Nat} {K N : Nat → Nat} {I : MI} {R : MR} (h : cells ≤ room_1.cells ∧ slots ≤ room_1.slots) {lv : List (Nat × Value)} : Zq p l e room_1 s m #[Value.ref b] below meth c G 4 (lw_Z below #[Value.ref b] s) cells slots z K N I R 782 lv [] := by
  refine z_iconst C dL_law_782 ?_
  refine z_top (y := .int 1) (by rw [show zI 1 = (1 : Int32) from by decide +kernel]) ?_
  exact fun H locs ls hW hL hl hd => W.widen h.1 h.2 (W.forget (locs := []) (L := locs) (fun q hq => by rw [← hG]; exact hL q hq) (lw_ret C.1 C.2.1 C.2.2.2.2.2.2.1 C.2.2.2.2.2.1 dL_law_783))
theorem lw_loop {p : Program} {l : Launch} {e : Env} {s : State} {m : MethodId} {below : List Frame} {meth : Method} {c : Code} {G : GG} {b : Nat} (C : Cx p l e room_1 s m #[Value.ref b] below meth c G cL_law 4 RL ret) {L : Nat} {xs : Nat → Int32} (hX : va_X b L xs s G.2.2) (hb0 : b < G.2.2.size) (hL8 : L ≤ 2048) (hG : G.2.2 = s.heap) (x o : Nat) : ∀ (k cells slots z : Nat) (K N : Nat → Nat) (I : MI) (R : MR) (i : Nat), LI G x o z K N I R → L < i + 4 + 4 * k → i ≤ 4096 → cells + 160 * k ≤ room_1.cells ∧ slots + 2490 * k ≤ room_1.slots → Zq p l e room_1 s m #[Value.ref b] below meth c G 4 (lw_Z below #[Value.ref b] s) cells slots z K N I R 18 [(0, .ref b), (1, .ref x), (2, .ref o), (3, .int (zI (i : Int)))] [] := by
  intro k
  induction k with
  | zero =>
    intro cells slots z K N I R i hI hk hi hc
    refine z_iload_n C dL_law_18 rfl ?_
    refine z_aload_n C dL_law_19 rfl ?_
    refine z_xlen C hX hb0 dL_law_20 ?_
    refine z_iconst C dL_law_21 ?_
    refine z_isub C dL_law_22 ?_
    refine z_icmp_gt C (tgt := 782) dL_law_23 (by decide) ⟨by omega, by omega⟩ ⟨by omega, by omega⟩ (fun h23 => lw_fin C hX hb0 hL8 hG ⟨by omega, by omega⟩) (fun h23 => ?_)
    exfalso; omega
  | succ k ih =>
    intro cells slots z K N I R i hI hk hi hc
    refine z_iload_n C dL_law_18 rfl ?_
    refine z_aload_n C dL_law_19 rfl ?_
    refine z_xlen C hX hb0 dL_law_20 ?_
    refine z_iconst C dL_law_21 ?_
    refine z_isub C dL_law_22 ?_
    refine z_icmp_gt C (tgt := 782) dL_law_23 (by decide) ⟨by omega, by omega⟩ ⟨by omega, by omega⟩ (fun h23 => lw_fin C hX hb0 hL8 hG ⟨by omega, by omega⟩) (fun h23 => ?_)
    refine z_aload_n C dL_law_26 rfl ?_
    refine z_iload_n C dL_law_27 rfl ?_
    refine z_xld C hX hb0 hL8 dL_law_28 ⟨by omega, by omega⟩ ?_
    refine z_bipush C dL_law_29 (by decide) ?_
    obtain ⟨w, hw1, hw2⟩ := lw_31 (zI (xs (i : Int).toNat).toInt)
    refine z_iand C dL_law_31 hw2 ?_
    have kk : ∀ (z9 : Nat) (K9 N9 : Nat → Nat) (I9 : MI) (R9 : MR), LI G x o z9 K9 N9 I9 R9 → Zq p l e room_1 s m #[Value.ref b] below meth c G 4 (lw_Z below #[Value.ref b] s) (cells + 160) (slots + 2490) z9 K9 N9 I9 R9 776 [(0, .ref b), (1, .ref x), (2, .ref o), (3, .int (zI (i : Int)))] [] := fun z9 K9 N9 I9 R9 hI9 => by
      have h9 := ih (cells + 160) (slots + 2490) z9 K9 N9 I9 R9 (i + 4) hI9 (by omega) (by omega) ⟨by omega, by omega⟩
      rw [show ((i + 4 : Nat) : Int) = (i : Int) + 4 by omega] at h9
      refine z_iinc C dL_law_776 rfl (by decide) rfl ?_
      exact z_goto C (tgt := 18) dL_law_779 (by decide) h9
    by_cases h0 : (w : Int) = 0
    · exact z_tin C (tgt := 144) 0 dL_law_32 h0 (by decide) (by decide) (by decide) rfl (by decide) (lw_c0 C hX hb0 hL8 hI (by omega) ⟨by omega, by omega⟩ kk)
    by_cases h1 : (w : Int) = 1
    · exact z_tin C (tgt := 177) 1 dL_law_32 h1 (by decide) (by decide) (by decide) rfl (by decide) (lw_c1 C hX hb0 hL8 hI (by omega) ⟨by omega, by omega⟩ kk)
    by_cases h2 : (w : Int) = 2
    · exact z_tin C (tgt := 200) 2 dL_law_32 h2 (by decide) (by decide) (by decide) rfl (by decide) (lw_c2 C hX hb0 hL8 hI (by omega) ⟨by omega, by omega⟩ kk)
    by_cases h3 : (w : Int) = 3
    · exact z_tin C (tgt := 213) 3 dL_law_32 h3 (by decide) (by decide) (by decide) rfl (by decide) (lw_c3 C hX hb0 hL8 hI (by omega) ⟨by omega, by omega⟩ kk)
    by_cases h4 : (w : Int) = 4
    · exact z_tin C (tgt := 236) 4 dL_law_32 h4 (by decide) (by decide) (by decide) rfl (by decide) (lw_c4 C hX hb0 hL8 hI (by omega) ⟨by omega, by omega⟩ kk)
    by_cases h5 : (w : Int) = 5
    · exact z_tin C (tgt := 259) 5 dL_law_32 h5 (by decide) (by decide) (by decide) rfl (by decide) (lw_c5 C hX hb0 hL8 hI (by omega) ⟨by omega, by omega⟩ kk)
    by_cases h6 : (w : Int) = 6
    · exact z_tin C (tgt := 302) 6 dL_law_32 h6 (by decide) (by decide) (by decide) rfl (by decide) (lw_c6 C hX hb0 hL8 hI (by omega) ⟨by omega, by omega⟩ kk)
    by_cases h7 : (w : Int) = 7
    · exact z_tin C (tgt := 335) 7 dL_law_32 h7 (by decide) (by decide) (by decide) rfl (by decide) (lw_c7 C hX hb0 hL8 hI (by omega) ⟨by omega, by omega⟩ kk)
    by_cases h8 : (w : Int) = 8
    · exact z_tin C (tgt := 358) 8 dL_law_32 h8 (by decide) (by decide) (by decide) rfl (by decide) (lw_c8 C hX hb0 hL8 hI (by omega) ⟨by omega, by omega⟩ kk)
    by_cases h9 : (w : Int) = 9
    · exact z_tin C (tgt := 391) 9 dL_law_32 h9 (by decide) (by decide) (by decide) rfl (by decide) (lw_c9 C hX hb0 hL8 hI (by omega) ⟨by omega, by omega⟩ kk)
    by_cases h10 : (w : Int) = 10
    · exact z_tin C (tgt := 424) 10 dL_law_32 h10 (by decide) (by decide) (by decide) rfl (by decide) (lw_c10 C hX hb0 hL8 hI (by omega) ⟨by omega, by omega⟩ kk)
    by_cases h11 : (w : Int) = 11
    · exact z_tin C (tgt := 457) 11 dL_law_32 h11 (by decide) (by decide) (by decide) rfl (by decide) (lw_c11 C hX hb0 hL8 hI (by omega) ⟨by omega, by omega⟩ kk)
    by_cases h12 : (w : Int) = 12
    · exact z_tin C (tgt := 480) 12 dL_law_32 h12 (by decide) (by decide) (by decide) rfl (by decide) (lw_c12 C hX hb0 hL8 hI (by omega) ⟨by omega, by omega⟩ kk)
    by_cases h13 : (w : Int) = 13
    · exact z_tin C (tgt := 503) 13 dL_law_32 h13 (by decide) (by decide) (by decide) rfl (by decide) (lw_c13 C hX hb0 hL8 hI (by omega) ⟨by omega, by omega⟩ kk)
    by_cases h14 : (w : Int) = 14
    · exact z_tin C (tgt := 536) 14 dL_law_32 h14 (by decide) (by decide) (by decide) rfl (by decide) (lw_c14 C hX hb0 hL8 hI (by omega) ⟨by omega, by omega⟩ kk)
    by_cases h15 : (w : Int) = 15
    · exact z_tin C (tgt := 569) 15 dL_law_32 h15 (by decide) (by decide) (by decide) rfl (by decide) (lw_c15 C hX hb0 hL8 hI (by omega) ⟨by omega, by omega⟩ kk)
    by_cases h16 : (w : Int) = 16
    · exact z_tin C (tgt := 602) 16 dL_law_32 h16 (by decide) (by decide) (by decide) rfl (by decide) (lw_c16 C hX hb0 hL8 hI (by omega) ⟨by omega, by omega⟩ kk)
    by_cases h17 : (w : Int) = 17
    · exact z_tin C (tgt := 625) 17 dL_law_32 h17 (by decide) (by decide) (by decide) rfl (by decide) (lw_c17 C hX hb0 hL8 hI (by omega) ⟨by omega, by omega⟩ kk)
    by_cases h18 : (w : Int) = 18
    · exact z_tin C (tgt := 678) 18 dL_law_32 h18 (by decide) (by decide) (by decide) rfl (by decide) (lw_c18 C hX hb0 hL8 hI (by omega) ⟨by omega, by omega⟩ kk)
    by_cases h19 : (w : Int) = 19
    · exact z_tin C (tgt := 691) 19 dL_law_32 h19 (by decide) (by decide) (by decide) rfl (by decide) (lw_c19 C hX hb0 hL8 hI (by omega) ⟨by omega, by omega⟩ kk)
    by_cases h20 : (w : Int) = 20
    · exact z_tin C (tgt := 704) 20 dL_law_32 h20 (by decide) (by decide) (by decide) rfl (by decide) (lw_c20 C hX hb0 hL8 hI (by omega) ⟨by omega, by omega⟩ kk)
    by_cases h21 : (w : Int) = 21
    · exact z_tin C (tgt := 717) 21 dL_law_32 h21 (by decide) (by decide) (by decide) rfl (by decide) (lw_c21 C hX hb0 hL8 hI (by omega) ⟨by omega, by omega⟩ kk)
    by_cases h22 : (w : Int) = 22
    · exact z_tin C (tgt := 730) 22 dL_law_32 h22 (by decide) (by decide) (by decide) rfl (by decide) (lw_c22 C hX hb0 hL8 hI (by omega) ⟨by omega, by omega⟩ kk)
    by_cases h23 : (w : Int) = 23
    · exact z_tin C (tgt := 753) 23 dL_law_32 h23 (by decide) (by decide) (by decide) rfl (by decide) (lw_c23 C hX hb0 hL8 hI (by omega) ⟨by omega, by omega⟩ kk)
    exact z_tout C (tgt := 776) dL_law_32 ⟨by omega, by omega⟩ (Or.inr (by omega)) (by decide) (z_widen (by omega) (by omega) (kk _ _ _ _ _ hI))
theorem CI.st6 {G : GG} {x z : Nat} {K N : Nat → Nat} {I : MI} {R : MR} (h : P6 G x z K N I R) : CI G x z K N I R (fun j => if j < 3 then zF0 j else 0) (fun _ => 0) (fun _ => 0) (fun _ => 0) (fun _ => 0) 0 0 := by
  obtain ⟨hz, a, ⟨t0, b0, b1, b2, b3⟩, ⟨s0, s1⟩, i2, i1, i11, i89, i91⟩ := h
  refine ⟨a, ⟨b0, b1, b2, b3⟩, ⟨t0, ?_, ?_, ?_⟩, ⟨?_, ?_, ⟨by omega, by omega⟩, ?_⟩, ⟨fun k hk => Or.inl ⟨?_, rfl⟩, Or.inl s0⟩, ⟨⟨by omega, by omega⟩, fun i _ => ?_⟩, ?_, i91⟩
  · refine ⟨⟨?_, ?_, ?_⟩, ⟨?_, ?_, ?_⟩, fun r hr => ?_, fun g hg => ?_⟩
    · rw [i2]; rfl
    · rw [i2]; rfl
    · rw [i2]; rfl
    · rw [i1]; rfl
    · rw [i1]; rfl
    · rw [i1]; rfl
    · exact absurd hr (by show ¬ (r : Int) < 0; omega)
    · exact absurd hg (by show ¬ (g : Int) < 0; omega)
  · refine ⟨by decide, by decide, by decide, by decide, by decide, by decide, fun r hr => ?_, fun g hg => ?_⟩
    · exact absurd hr (by show ¬ (r : Int) < 0; omega)
    · exact absurd hg (by show ¬ (g : Int) < 0; omega)
  · exact fun g hg => absurd hg (by show ¬ (g : Int) < 0; omega)
  · rw [i11]; exact ⟨by simp, by simp⟩
  · rw [i11]
  · exact fun j hj => absurd hj (by omega)
  · rcases (show k = 0 ∨ k = 1 by omega) with e | e
    · subst e; exact s0
    · subst e; exact s1
  · rw [i91]; exact ⟨by simp, by simp⟩
  · rw [i89]
theorem LI.st7 {G : GG} {x z1 z2 : Nat} {K1 N1 K N : Nat → Nat} {I1 I : MI} {R1 R : MR} (h6 : P6 G x (x + 92) K1 N1 I1 R1) (h7 : P7 G (x + 92) (va_up K1 (x + 92) 7) N1 (va_up I1 (x + 92) (fun _ => 0)) (va_up R1 (x + 92) (fun _ => none)) z2 K N I R) : LI G x (x + 92) z2 K N I R := by
  obtain ⟨hz, hf, hS, hr1, hr⟩ := h7
  have c := CI.st6 h6
  have c2 : CI G x z2 K N I R (fun j => if j < 3 then zF0 j else 0) (fun _ => 0) (fun _ => 0) (fun _ => 0) (fun _ => 0) 0 0 := c.grow (by omega) fun a ha => by
    obtain ⟨f1, f2, f3, f4⟩ := hf a (by omega)
    rw [va_up_n (by omega)] at f1 f3
    have f5 := f4 (by omega)
    rw [va_up_n (by omega)] at f5
    exact ⟨⟨f1, f2⟩, f3, f5⟩
  have r0 : I (x + 92) = fun _ => 0 := by rw [(hf (x + 92) (by omega)).2.2.1, va_up_s]
  exact LI.mk rfl (by omega) c2 hS (fun _ _ => rfl) hr1 (hr 2 (by omega) (by omega)) (hr 3 (by omega) (by omega)) (hr 4 (by omega) (by omega)) (hr 5 (by omega) (by omega)) (by rw [r0]) (by rw [r0]) (fun j _ _ => by rw [r0]; exact ⟨by simp, by simp⟩) (fun k _ => Or.inl rfl)
