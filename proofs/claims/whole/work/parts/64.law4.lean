def ov (o : Nat) (J B : MI) : MI := fun a => if o ≤ a ∧ a < o + 8 then J a else B a
theorem ov_r {o : Nat} {J B : MI} {a : Nat} (h : o ≤ a ∧ a < o + 8) : ov o J B a = J a := if_pos h
theorem ov_n {o : Nat} {J B : MI} {a : Nat} (h : ¬ (o ≤ a ∧ a < o + 8)) : ov o J B a = B a := if_neg h
theorem ov_up {o : Nat} {J B : MI} {k : Nat} (h : o ≤ k ∧ k < o + 8) (v : Nat → Int) : va_up (ov o J B) k v = ov o (va_up J k v) B := funext fun a => by
  unfold ov
  by_cases e : a = k
  · subst e; rw [va_up_s, if_pos h, va_up_s]
  · rw [va_up_n e]
    by_cases q : o ≤ a ∧ a < o + 8
    · rw [if_pos q, if_pos q, va_up_n e]
    · rw [if_neg q, if_neg q]
theorem ov_0 (o : Nat) (J B : MI) : ov o J B o = J o := ov_r ⟨by omega, by omega⟩
theorem ov_1 (o : Nat) (J B : MI) : ov o J B (o + 1) = J (o + 1) := ov_r ⟨by omega, by omega⟩
theorem ov_2 (o : Nat) (J B : MI) : ov o J B (o + 2) = J (o + 2) := ov_r ⟨by omega, by omega⟩
theorem ov_5 (o : Nat) (J B : MI) : ov o J B (o + 5) = J (o + 5) := ov_r ⟨by omega, by omega⟩
theorem ov_6 (o : Nat) (J B : MI) : ov o J B (o + 6) = J (o + 6) := ov_r ⟨by omega, by omega⟩
theorem ov_7 (o : Nat) (J B : MI) : ov o J B (o + 7) = J (o + 7) := ov_r ⟨by omega, by omega⟩
theorem ovu_0 (o : Nat) (J B : MI) (v : Nat → Int) : va_up (ov o J B) o v = ov o (va_up J o v) B := ov_up ⟨by omega, by omega⟩ v
theorem ovu_1 (o : Nat) (J B : MI) (v : Nat → Int) : va_up (ov o J B) (o + 1) v = ov o (va_up J (o + 1) v) B := ov_up ⟨by omega, by omega⟩ v
theorem ovu_2 (o : Nat) (J B : MI) (v : Nat → Int) : va_up (ov o J B) (o + 2) v = ov o (va_up J (o + 2) v) B := ov_up ⟨by omega, by omega⟩ v
theorem ovu_6 (o : Nat) (J B : MI) (v : Nat → Int) : va_up (ov o J B) (o + 6) v = ov o (va_up J (o + 6) v) B := ov_up ⟨by omega, by omega⟩ v
theorem ovu_7 (o : Nat) (J B : MI) (v : Nat → Int) : va_up (ov o J B) (o + 7) v = ov o (va_up J (o + 7) v) B := ov_up ⟨by omega, by omega⟩ v
theorem ov2_0 (o : Nat) (J B : MI) (k : Nat) (v : Int) : u2 (ov o J B) o k v = ov o (u2 J o k v) B := by rw [u2_st, u2_st, ov_0, ovu_0]
theorem ov_e {o : Nat} {I J : MI} (h : ∀ k : Nat, k < 8 → J (o + k) = I (o + k)) : J = ov o I J := funext fun a => by
  by_cases q : o ≤ a ∧ a < o + 8
  · rw [ov_r q]
    have := h (a - o) (by omega)
    rwa [show o + (a - o) = a by omega] at this
  · rw [ov_n q]
theorem ov_recM (o : Nat) (J B : MI) : recM (ov o J B) o = ov o (recM J o) B := by
  unfold recM
  rw [ov_0, ov_1, ov_2, ovu_2, ov2_0]
theorem ov_tstM (o : Nat) (J B : MI) (er pl sp : Int) (k : Nat) : tstM (ov o J B) o er pl sp k = ov o (tstM J o er pl sp k) B := by
  unfold tstM
  rw [ov_1, ov_6, ov_7, ovu_6, ovu_7, ov2_0, ov2_0]
theorem ov_doP (o : Nat) (J B : MI) (w a b d : Int) : doP (ov o J B) o w a b d = ov o (doP J o w a b d) B := by
  unfold doP
  rw [ov_1, ov_tstM, ovu_1, ovu_1, ovu_1, ovu_1, ovu_1]
  split
  · rfl
  · split
    · rfl
    · split
      · rfl
      · split <;> rfl
theorem ov_wnM (o : Nat) (J B : MI) : wnM (ov o J B) o = wnM J o := by
  unfold wnM
  rw [ov_1, ov_0]
theorem ov_cR (o : Nat) (J B : MI) : cR (ov o J B) o = ov o (cR J o) B := by
  unfold cR
  rw [ov_5, ov_0, ovu_0]
theorem ov_doM (o : Nat) (J B : MI) : doM (ov o J B) o = ov o (doM J o) B := by
  unfold doM
  rw [ov_0, ov_doP]
theorem ov_coJ (o : Nat) (J B : MI) : coJ (ov o J B) o = ov o (coJ J o) B := by
  unfold coJ
  rw [ov_5, ov_0, ovu_0, ov_recM, ov2_0]
theorem ov_coL (o : Nat) (B : MI) : ∀ (q : Nat) (J : MI) (d : Nat), coL o q (ov o J B) d = ((coL o q J d).1, ov o (coL o q J d).2 B)
  | 0, _, _ => rfl
  | q + 1, J, d => by
    rw [coL_s, coL_s, ov_0, ov_cR, ov_wnM, ov_doM]
    by_cases c1 : J o 11 < J o 6
    · rw [if_pos c1, if_pos c1]
      by_cases c2 : wnM (cR J o) o = 0
      · rw [if_pos c2, if_pos c2, ov_coL o B q]
      · rw [if_neg c2, if_neg c2]
    · rw [if_neg c1, if_neg c1]
theorem coL_keep (o : Nat) : ∀ (q : Nat) (J : MI) (n : Nat), TOk (J (o + 5)) (J o) → FOk (J o) → Ok (J (o + 1)) → (J o 11 = J o 6 ∨ ∃ q2 : Nat, (ffL (J (o + 5)) q2 (J o)).1 = -6) → (∀ b : Nat, b ≠ o → b ≠ o + 1 → b ≠ o + 6 → b ≠ o + 7 → (coL o q J n).2 b = J b) ∧ (∀ j : Nat, j < 9 → (coL o q J n).2 o j = J o j) ∧ FOk ((coL o q J n).2 o)
  | 0, _, _, _, c3, _, _ => ⟨fun _ _ _ _ _ => rfl, fun _ _ => rfl, c3⟩
  | q + 1, J, n, c2, c3, c4, c5 => by
    rw [coL_s]
    by_cases h37 : J o 11 < J o 6
    · rw [if_pos h37]
      obtain ⟨⟨d1, d2, d3⟩, d4, d5, d6, d7, d8⟩ := co_step (o := o) c2 c3 h37 c5
      have fw := (Fwd.ro (J (o + 5)) (J o)).trans (Fwd.nx (J (o + 5)) (roF (J (o + 5)) (J o)) 59)
      have rj : ∀ j : Nat, j < 11 → cR J o o j = J o j := fun j hj => by
        show va_up J o _ o j = _
        rw [va_up_s]; exact fw.2.2 j hj
      by_cases h56 : wnM (cR J o) o = 0
      · rw [if_pos h56]
        have hO9 : Ok (cR J o (o + 1)) := by rw [d2]; exact c4
        obtain ⟨e1, e2, e3⟩ := doM_keep hO9 h56 d8
        have x5 : doM (cR J o) o (o + 5) = J (o + 5) := by rw [e3 _ (by omega) (by omega) (by omega) (by omega), d1]
        have x6 : doM (cR J o) o o 6 = J o 6 := by rw [e2 6 (by omega) (by omega), d3]
        have x11 := e2 11 (by omega) (by omega)
        have t1 : TOk (doM (cR J o) o (o + 5)) (doM (cR J o) o o) := by
          have f1 := d4
          rw [x5]
          exact ⟨by rw [e2 6 (by omega) (by omega)]; exact f1.1, f1.2.1, by rw [e2 6 (by omega) (by omega), e2 11 (by omega) (by omega)]; exact f1.2.2⟩
        have t2 : FOk (doM (cR J o) o o) := fun j j1 j2 => by rw [e2 j (by omega) (by omega)]; exact d5 j j1 j2
        have t3 : doM (cR J o) o o 11 = doM (cR J o) o o 6 ∨ ∃ q2 : Nat, (ffL (doM (cR J o) o (o + 5)) q2 (doM (cR J o) o o)).1 = -6 := by
          rw [x6, x11, x5]
          rcases d7 with h | ⟨q2, h⟩
          · exact Or.inl h
          · exact Or.inr ⟨q2, (Sm.e_ffL q2 _ _ ⟨e2 6 (by omega) (by omega), e2 11 (by omega) (by omega)⟩).trans h⟩
        obtain ⟨i1, i2, i3⟩ := coL_keep o q (doM (cR J o) o) (n + 1) t1 t2 e1 t3
        refine ⟨fun b b0 b1 b6 b7 => ?_, fun j hj => ?_, i3⟩
        · rw [i1 b b0 b1 b6 b7, e3 b b0 b1 b6 b7]; exact va_up_n b0
        · rw [i2 j hj, e2 j (by omega) (by omega)]; exact rj j (by omega)
      · rw [if_neg h56]
        exact ⟨fun b b0 _ _ _ => va_up_n b0, fun j hj => rj j (by omega), d5⟩
    · rw [if_neg h37]
      exact ⟨fun _ _ _ _ _ => rfl, fun _ _ => rfl, c3⟩
theorem LI.sv {G : GG} {x o z : Nat} {K N : Nat → Nat} {I : MI} {R : MR} (h : LI G x o z K N I R) {k : Nat} (hk : k < 2) (hv : ¬ I (o + 4) k = 0) : 0 ≤ movF (I (o + 3)) (I (o + 1)) (236 * k) 0 3 := by
  obtain ⟨_, _, ⟨_, _, _, _, ⟨e0, _⟩, _⟩, _⟩ := h
  have e : movF (I (o + 3)) (I (o + 1)) (236 * k) 0 3 = I (o + 3) (236 * k + 3) := by unfold movF; rw [if_pos (by omega)]
  rw [e]
  rcases e0 k hk with w | ⟨sl, w1, w2, w3, w4⟩
  · exact absurd w.2 hv
  · exact w4.2.2.1.2.2.2.1.1
theorem lw_c17 {p : Program} {l : Launch} {e : Env} {s : State} {m : MethodId} {below : List Frame} {meth : Method} {c : Code} {G : GG} {b : Nat} (C : Cx p l e room_1 s m #[Value.ref b] below meth c G cL_law 4 RL ret) {L : Nat} {xs : Nat → Int32} (hX : va_X b L xs s G.2.2) (hb0 : b < G.2.2.size) (hL8 : L ≤ 2048) {Q : State → Prop} {cells slots x o z : Nat} {K N : Nat → Nat} {I : MI} {R : MR} (hI : LI G x o z K N I R) {i : Nat} (hi : i + 4 ≤ L) (hr : cells + 160 ≤ room_1.cells ∧ slots + 2490 ≤ room_1.slots) (kk : ∀ (z9 : Nat) (K9 N9 : Nat → Nat) (I9 : MI) (R9 : MR), LI G x o z9 K9 N9 I9 R9 → Zq p l e room_1 s m #[Value.ref b] below meth c G 4 Q (cells + 160) (slots + 2490) z9 K9 N9 I9 R9 776 [(0, .ref b), (1, .ref x), (2, .ref o), (3, .int (zI (i : Int)))] []) : Zq p l e room_1 s m #[Value.ref b] below meth c G 4 Q cells slots z K N I R 625 [(0, .ref b), (1, .ref x), (2, .ref o), (3, .int (zI (i : Int)))] [] := by
  refine z_aload_n C dL_law_625 rfl ?_
  refine z_aload_n C dL_law_626 rfl ?_
  refine z_iload_n C dL_law_627 rfl ?_
  refine z_iconst C dL_law_628 ?_
  refine z_iadd C dL_law_629 ?_
  refine z_xld C hX hb0 hL8 dL_law_630 ⟨by omega, by omega⟩ ?_
  refine z_i2l C dL_law_631 ?_
  refine z_bipush C dL_law_632 (by decide) ?_
  refine z_lshl C dL_law_634 ?_
  refine z_aload_n C dL_law_635 rfl ?_
  refine z_iload_n C dL_law_636 rfl ?_
  refine z_iconst C dL_law_637 ?_
  refine z_iadd C dL_law_638 ?_
  refine z_xld C hX hb0 hL8 dL_law_639 ⟨by omega, by omega⟩ ?_
  refine z_i2l C dL_law_640 ?_
  refine z_ldc2 C 4294967295 (by decide +kernel) dL_law_641 wq_1_6 ?_
  refine z_landr C dL_law_644 ?_
  refine z_lorr C dL_law_645 ?_
  refine z_longU ?_
  refine z_callV C (ci := 6) rfl (by decide) hI.2.2.1.1.1 (mX6_put l G hI.2.2.1 hI.2.1 (UInt64.toNat_lt _)) (cwV 1 C.2.2.2.2.1 gvL_87 rfl rfl rfl hdL_X6_put ⟨Nat.le_of_ble_eq_true rfl, Nat.le_of_ble_eq_true rfl⟩) rfl rfl (Nat.le_of_ble_eq_true rfl) dL_law_646 ⟨by omega, by omega⟩ ?_
  intro r z1 K1 N1 I1 R1 ⟨hr1, hP⟩
  subst hr1
  have hS := hI.sh hP.1
  have e0 : I1 o = I o := (hP.1.row hI.1 0 (by omega)).1
  have e1 := (hP.1.row hI.1 1 (by omega)).1
  have e2 := (hP.1.row hI.1 2 (by omega)).1
  have e3 := (hP.1.row hI.1 3 (by omega)).1
  have e4 := (hP.1.row hI.1 4 (by omega)).1
  have e5 := (hP.1.row hI.1 5 (by omega)).1
  have hO : Ok (I1 (o + 1)) := by rw [e1]; exact hI.ok.1
  have hR : 0 ≤ I1 o 2 ∧ I1 o 2 ≤ 6 := by rw [e0]; exact hI.ok.2.1
  have hL6 : 0 ≤ I1 o 6 ∧ I1 o 6 ≤ 80 := by rw [e0]; exact hI.ok.2.2.1
  refine z_aload_n C dL_law_649 rfl ?_
  refine z_aload_n C dL_law_650 rfl ?_
  refine z_iload_n C dL_law_651 rfl ?_
  refine z_iconst C dL_law_652 ?_
  refine z_iadd C dL_law_653 ?_
  refine z_xld C hX hb0 hL8 dL_law_654 ⟨by omega, by omega⟩ ?_
  refine z_i2l C dL_law_655 ?_
  refine z_bipush C dL_law_656 (by decide) ?_
  refine z_lshl C dL_law_658 ?_
  refine z_aload_n C dL_law_659 rfl ?_
  refine z_iload_n C dL_law_660 rfl ?_
  refine z_iconst C dL_law_661 ?_
  refine z_iadd C dL_law_662 ?_
  refine z_xld C hX hb0 hL8 dL_law_663 ⟨by omega, by omega⟩ ?_
  refine z_i2l C dL_law_664 ?_
  refine z_ldc2 C 4294967295 (by decide +kernel) dL_law_665 wq_1_6 ?_
  refine z_landr C dL_law_668 ?_
  refine z_lorr C dL_law_669 ?_
  refine z_longU ?_
  refine z_callVd C (ci := 7) rfl (by decide) hS.1 (mX7_put l G hS  (UInt64.toNat_lt _) hL6) (cwV 1 C.2.2.2.2.1 gvL_91 rfl rfl rfl hdL_X7_put ⟨Nat.le_of_ble_eq_true rfl, Nat.le_of_ble_eq_true rfl⟩) rfl rfl (Nat.le_of_ble_eq_true rfl) dL_law_670 ⟨by omega, by omega⟩ ?_
  refine z_same C (tgt := 776) dL_law_673 (by decide) (by rw [e0]) ?_
  refine z_widen (by omega) (by omega) (kk _ _ _ _ _ ?_)
  have ho := hI.1
  split
  · rename_i hc
    have hc2 := hc
    rw [e0] at hc2
    refine hI.nxt hP (fun b hb => ?_) ?_ ?_ ?_ ?_ ?_ ?_ ?_ (fun j h1 h2 => ?_) hI.2.2.2.2.2
    · unfold padM; rw [u2_row (by omega), va_up_n (by omega)]
    · unfold padM; rw [u2_row (by omega), va_up_n (by omega)]; exact e1
    · unfold padM; rw [u2_row (by omega), va_up_n (by omega)]; exact e2
    · unfold padM; rw [u2_row (by omega), va_up_n (by omega)]; exact e3
    · unfold padM; rw [u2_row (by omega), va_up_n (by omega)]; exact e4
    · unfold padM padP; rw [u2_row (by omega), va_up_s, if_pos hc2, e0, e5]
    · unfold padM; rw [u2_k (by omega), va_up_n (by omega), e0]
    · unfold padL; rw [padM_6, if_pos hc2, e0]
    · unfold padM; rw [u2_k (by omega), va_up_n (by omega), e0]; exact hI.2.2.2.2.1 j h1 h2
  · rename_i hc
    have hc2 := hc
    rw [e0] at hc2
    unfold padP padL at hP
    rw [if_neg hc2, if_neg hc2] at hP
    exact hI.fr hP
theorem lw_c18 {p : Program} {l : Launch} {e : Env} {s : State} {m : MethodId} {below : List Frame} {meth : Method} {c : Code} {G : GG} {b : Nat} (C : Cx p l e room_1 s m #[Value.ref b] below meth c G cL_law 4 RL ret) {L : Nat} {xs : Nat → Int32} (hX : va_X b L xs s G.2.2) (hb0 : b < G.2.2.size) (hL8 : L ≤ 2048) {Q : State → Prop} {cells slots x o z : Nat} {K N : Nat → Nat} {I : MI} {R : MR} (hI : LI G x o z K N I R) {i : Nat} (hi : i + 4 ≤ L) (hr : cells + 160 ≤ room_1.cells ∧ slots + 2490 ≤ room_1.slots) (kk : ∀ (z9 : Nat) (K9 N9 : Nat → Nat) (I9 : MI) (R9 : MR), LI G x o z9 K9 N9 I9 R9 → Zq p l e room_1 s m #[Value.ref b] below meth c G 4 Q (cells + 160) (slots + 2490) z9 K9 N9 I9 R9 776 [(0, .ref b), (1, .ref x), (2, .ref o), (3, .int (zI (i : Int)))] []) : Zq p l e room_1 s m #[Value.ref b] below meth c G 4 Q cells slots z K N I R 678 [(0, .ref b), (1, .ref x), (2, .ref o), (3, .int (zI (i : Int)))] [] := by
  refine z_aload_n C dL_law_678 rfl ?_
  refine z_callV C (ci := 6) rfl (by decide) hI.2.2.1.1.1 (mX6_wipe l G hI.2.2.1 hI.2.1 ) (cwV 0 C.2.2.2.2.1 gvL_92 rfl rfl rfl hdL_X6_wipe ⟨Nat.le_of_ble_eq_true rfl, Nat.le_of_ble_eq_true rfl⟩) rfl rfl (Nat.le_of_ble_eq_true rfl) dL_law_679 ⟨by omega, by omega⟩ ?_
  intro r z1 K1 N1 I1 R1 ⟨hr1, hP⟩
  subst hr1
  have hS := hI.sh hP.1
  have e0 : I1 o = I o := (hP.1.row hI.1 0 (by omega)).1
  have e1 := (hP.1.row hI.1 1 (by omega)).1
  have e2 := (hP.1.row hI.1 2 (by omega)).1
  have e3 := (hP.1.row hI.1 3 (by omega)).1
  have e4 := (hP.1.row hI.1 4 (by omega)).1
  have e5 := (hP.1.row hI.1 5 (by omega)).1
  have hO : Ok (I1 (o + 1)) := by rw [e1]; exact hI.ok.1
  have hR : 0 ≤ I1 o 2 ∧ I1 o 2 ≤ 6 := by rw [e0]; exact hI.ok.2.1
  refine z_aload_n C dL_law_682 rfl ?_
  refine z_callVd C (ci := 7) rfl (by decide) hS.1 (mX7_wipe l G hS  ) (cwV 0 C.2.2.2.2.1 gvL_95 rfl rfl rfl hdL_X7_wipe ⟨Nat.le_of_ble_eq_true rfl, Nat.le_of_ble_eq_true rfl⟩) rfl rfl (Nat.le_of_ble_eq_true rfl) dL_law_683 ⟨by omega, by omega⟩ ?_
  refine z_same C (tgt := 776) dL_law_686 (by decide) (by rw [e0]) ?_
  refine z_widen (by omega) (by omega) (kk _ _ _ _ _ ?_)
  have ho := hI.1
  exact hI.nxt hP (fun b hb => u2_row (by omega)) (by rw [u2_row (by omega)]; exact e1) (by rw [u2_row (by omega)]; exact e2) (by rw [u2_row (by omega)]; exact e3) (by rw [u2_row (by omega)]; exact e4) (by rw [u2_row (by omega)]; exact e5) (by rw [u2_k (by omega), e0]) (u2_s _ _ _ _) (fun j h1 h2 => by rw [u2_k (by omega), e0]; exact hI.2.2.2.2.1 j h1 h2) hI.2.2.2.2.2
theorem lw_c19 {p : Program} {l : Launch} {e : Env} {s : State} {m : MethodId} {below : List Frame} {meth : Method} {c : Code} {G : GG} {b : Nat} (C : Cx p l e room_1 s m #[Value.ref b] below meth c G cL_law 4 RL ret) {L : Nat} {xs : Nat → Int32} (hX : va_X b L xs s G.2.2) (hb0 : b < G.2.2.size) (hL8 : L ≤ 2048) {Q : State → Prop} {cells slots x o z : Nat} {K N : Nat → Nat} {I : MI} {R : MR} (hI : LI G x o z K N I R) {i : Nat} (hi : i + 4 ≤ L) (hr : cells + 160 ≤ room_1.cells ∧ slots + 2490 ≤ room_1.slots) (kk : ∀ (z9 : Nat) (K9 N9 : Nat → Nat) (I9 : MI) (R9 : MR), LI G x o z9 K9 N9 I9 R9 → Zq p l e room_1 s m #[Value.ref b] below meth c G 4 Q (cells + 160) (slots + 2490) z9 K9 N9 I9 R9 776 [(0, .ref b), (1, .ref x), (2, .ref o), (3, .int (zI (i : Int)))] []) : Zq p l e room_1 s m #[Value.ref b] below meth c G 4 Q cells slots z K N I R 691 [(0, .ref b), (1, .ref x), (2, .ref o), (3, .int (zI (i : Int)))] [] := by
  refine z_aload_n C dL_law_691 rfl ?_
  refine z_callV C (ci := 6) rfl (by decide) hI.2.2.1.1.1 (mX6_fault l G hI.2.2.1 hI.2.1 ) (cwV 0 C.2.2.2.2.1 gvL_96 rfl rfl rfl hdL_X6_fault ⟨Nat.le_of_ble_eq_true rfl, Nat.le_of_ble_eq_true rfl⟩) rfl rfl (Nat.le_of_ble_eq_true rfl) dL_law_692 ⟨by omega, by omega⟩ ?_
  intro r z1 K1 N1 I1 R1 ⟨hr1, hP⟩
  subst hr1
  have hS := hI.sh hP.1
  have e0 : I1 o = I o := (hP.1.row hI.1 0 (by omega)).1
  have e1 := (hP.1.row hI.1 1 (by omega)).1
  have e2 := (hP.1.row hI.1 2 (by omega)).1
  have e3 := (hP.1.row hI.1 3 (by omega)).1
  have e4 := (hP.1.row hI.1 4 (by omega)).1
  have e5 := (hP.1.row hI.1 5 (by omega)).1
  have hO : Ok (I1 (o + 1)) := by rw [e1]; exact hI.ok.1
  have hR : 0 ≤ I1 o 2 ∧ I1 o 2 ≤ 6 := by rw [e0]; exact hI.ok.2.1
  have hT9 : POk (I1 (o + 5)) (I1 o 6) := by rw [e5, e0]; exact hI.ok.2.2
  refine z_aload_n C dL_law_695 rfl ?_
  refine z_mem (va_upI I1 o).symm rfl ?_
  refine z_callVd C (ci := 7) rfl (by decide) hS.1 (nX7_fault (I := I1) (f := I1 o) l G hS  hT9) (cwV 0 C.2.2.2.2.1 gvL_99 rfl rfl rfl hdL_X7_fault ⟨Nat.le_of_ble_eq_true rfl, Nat.le_of_ble_eq_true rfl⟩) rfl rfl (Nat.le_of_ble_eq_true rfl) dL_law_696 ⟨by omega, by omega⟩ ?_
  refine z_same C (tgt := 776) dL_law_699 (by decide) (by rw [e5, e0]; exact ffV_6 rfl) ?_
  refine z_widen (by omega) (by omega) (kk _ _ _ _ _ ?_)
  exact (hI.fr hP).ff
theorem lw_c20 {p : Program} {l : Launch} {e : Env} {s : State} {m : MethodId} {below : List Frame} {meth : Method} {c : Code} {G : GG} {b : Nat} (C : Cx p l e room_1 s m #[Value.ref b] below meth c G cL_law 4 RL ret) {L : Nat} {xs : Nat → Int32} (hX : va_X b L xs s G.2.2) (hb0 : b < G.2.2.size) (hL8 : L ≤ 2048) {Q : State → Prop} {cells slots x o z : Nat} {K N : Nat → Nat} {I : MI} {R : MR} (hI : LI G x o z K N I R) {i : Nat} (hi : i + 4 ≤ L) (hr : cells + 160 ≤ room_1.cells ∧ slots + 2490 ≤ room_1.slots) (kk : ∀ (z9 : Nat) (K9 N9 : Nat → Nat) (I9 : MI) (R9 : MR), LI G x o z9 K9 N9 I9 R9 → Zq p l e room_1 s m #[Value.ref b] below meth c G 4 Q (cells + 160) (slots + 2490) z9 K9 N9 I9 R9 776 [(0, .ref b), (1, .ref x), (2, .ref o), (3, .int (zI (i : Int)))] []) : Zq p l e room_1 s m #[Value.ref b] below meth c G 4 Q cells slots z K N I R 704 [(0, .ref b), (1, .ref x), (2, .ref o), (3, .int (zI (i : Int)))] [] := by
  refine z_aload_n C dL_law_704 rfl ?_
  refine z_callV C (ci := 6) rfl (by decide) hI.2.2.1.1.1 (mX6_carryOut l G hI.2.2.1 hI.2.1 (M := I) (o := o) rfl rfl rfl hI.2.2.2.2.1) (cwV 0 C.2.2.2.2.1 gvL_100 rfl rfl rfl hdL_X6_carryOut ⟨Nat.le_of_ble_eq_true rfl, Nat.le_of_ble_eq_true rfl⟩) rfl rfl (Nat.le_of_ble_eq_true rfl) dL_law_705 ⟨by omega, by omega⟩ ?_
  intro r z1 K1 N1 I1 R1 ⟨hr1, hf, p1, p2⟩
  subst hr1
  have hS := hI.sh hf
  have e0 : I1 o = I o := (hf.row hI.1 0 (by omega)).1
  have e1 := (hf.row hI.1 1 (by omega)).1
  have e2 := (hf.row hI.1 2 (by omega)).1
  have e3 := (hf.row hI.1 3 (by omega)).1
  have e4 := (hf.row hI.1 4 (by omega)).1
  have e5 := (hf.row hI.1 5 (by omega)).1
  have hO : Ok (I1 (o + 1)) := by rw [e1]; exact hI.ok.1
  have hR : 0 ≤ I1 o 2 ∧ I1 o 2 ≤ 6 := by rw [e0]; exact hI.ok.2.1
  have hT9 : POk (I1 (o + 5)) (I1 o 6) := by rw [e5, e0]; exact hI.ok.2.2
  have hF9 : FOk (I1 o) := by rw [e0]; exact hI.2.2.2.2.1
  have hov : I1 = ov o I I1 := ov_e fun k hk => (hf.row hI.1 k hk).1
  have hco : coL o 82 (coJ (ov o I I1) o) 0 = ((coL o 82 (coJ I o) 0).1, ov o (coL o 82 (coJ I o) 0).2 I1) := by rw [ov_coJ, ov_coL]
  rw [← hov] at hco
  refine z_aload_n C dL_law_708 rfl ?_
  refine z_callVd C (ci := 7) rfl (by decide) hS.1 (nX7_carryOut l G hS hO hR hT9 hF9) (cwV 0 C.2.2.2.2.1 gvL_103 rfl rfl rfl hdL_X7_carryOut ⟨Nat.le_of_ble_eq_true rfl, Nat.le_of_ble_eq_true rfl⟩) rfl rfl (Nat.le_of_ble_eq_true rfl) dL_law_709 ⟨by omega, by omega⟩ ?_
  refine z_same C (tgt := 776) dL_law_712 (by decide) (by rw [e5, e0, hco]; first | done | rfl) ?_
  refine z_widen (by omega) (by omega) (kk _ _ _ _ _ ?_)
  have ho := hI.1
  have hz := hf.1
  have hx := hI.2.1
  by_cases hc : ffV (I (o + 5)) (I o) = -6
  · rw [if_pos (by rw [e5, e0]; exact hc), hco]
    show LI G x o z1 K1 N1 (u2 (ov o (coL o 82 (coJ I o) 0).2 I1) o 6 0) R1
    obtain ⟨⟨c1, c2⟩, c3, c4, c5, c6, c7⟩ := coJ_ok2 hI.ok.1 hI.ok.2.2 hI.2.2.2.2.1 hc
    obtain ⟨k1, k2, k3⟩ := coL_keep o 82 (coJ I o) 0 c4 c5 c6 c7
    have f2 : ffF (I (o + 5)) (I o) 2 = I o 2 := (ffV_ok2 hI.ok.2.2 hI.2.2.2.2.1).2.2 2 (by omega)
    have g2 : coJ I o (o + 2) = recH (I (o + 1)) (I (o + 2)) (I o 2) := by
      unfold coJ recM
      rw [u2_row (by omega), u2_row (by omega), va_up_s, va_up_n (by omega), va_up_n (by omega), va_up_s, f2]
    have g3 : ∀ j : Nat, 3 ≤ j → coJ I o (o + j) = I (o + j) := fun j hj => by
      unfold coJ recM
      rw [u2_row (by omega), u2_row (by omega), va_up_n (by omega), va_up_n (by omega)]
    have g0 : coJ I o o 2 = recN (I o 2) + 1 := by
      unfold coJ recM
      rw [u2_k (by omega), u2_s, va_up_s, f2]
    refine LI.mk ho (by omega) (p1 hc) hS (fun b hb => ?_) ?_ ?_ ?_ ?_ ?_ ?_ (u2_s _ _ _ _) (fun j h1 h2 => ?_) hI.2.2.2.2.2
    · rw [u2_row (by omega)]; exact ov_n (by omega)
    · rw [u2_row (by omega), ov_1]
    · rw [u2_row (by omega), ov_2, k1 _ (by omega) (by omega) (by omega) (by omega), g2]
    · rw [u2_row (by omega), ov_r (by omega), k1 _ (by omega) (by omega) (by omega) (by omega)]; exact g3 3 (by omega)
    · rw [u2_row (by omega), ov_r (by omega), k1 _ (by omega) (by omega) (by omega) (by omega)]; exact g3 4 (by omega)
    · rw [u2_row (by omega), ov_5, k1 _ (by omega) (by omega) (by omega) (by omega)]; exact g3 5 (by omega)
    · rw [u2_k (by omega), ov_0, k2 2 (by omega), g0]
    · rw [u2_k (by omega), ov_0]; exact k3 j h1 h2
  · rw [if_neg (by rw [e5, e0]; exact hc)]
    have hP : CPn G x z K N I R (I (o + 1)) (I (o + 2)) (I (o + 3)) (I (o + 4)) (I (o + 5)) (I o 2) (I o 6) z1 K1 N1 I1 R1 := ⟨hf, p2 hc⟩
    exact (hI.fr hP).ff
theorem lw_c21 {p : Program} {l : Launch} {e : Env} {s : State} {m : MethodId} {below : List Frame} {meth : Method} {c : Code} {G : GG} {b : Nat} (C : Cx p l e room_1 s m #[Value.ref b] below meth c G cL_law 4 RL ret) {L : Nat} {xs : Nat → Int32} (hX : va_X b L xs s G.2.2) (hb0 : b < G.2.2.size) (hL8 : L ≤ 2048) {Q : State → Prop} {cells slots x o z : Nat} {K N : Nat → Nat} {I : MI} {R : MR} (hI : LI G x o z K N I R) {i : Nat} (hi : i + 4 ≤ L) (hr : cells + 160 ≤ room_1.cells ∧ slots + 2490 ≤ room_1.slots) (kk : ∀ (z9 : Nat) (K9 N9 : Nat → Nat) (I9 : MI) (R9 : MR), LI G x o z9 K9 N9 I9 R9 → Zq p l e room_1 s m #[Value.ref b] below meth c G 4 Q (cells + 160) (slots + 2490) z9 K9 N9 I9 R9 776 [(0, .ref b), (1, .ref x), (2, .ref o), (3, .int (zI (i : Int)))] []) : Zq p l e room_1 s m #[Value.ref b] below meth c G 4 Q cells slots z K N I R 717 [(0, .ref b), (1, .ref x), (2, .ref o), (3, .int (zI (i : Int)))] [] := by
  refine z_aload_n C dL_law_717 rfl ?_
  refine z_callV C (ci := 6) rfl (by decide) hI.2.2.1.1.1 (mX6_undo l G hI.2.2.1 hI.2.1 ) (cwV 0 C.2.2.2.2.1 gvL_104 rfl rfl rfl hdL_X6_undo ⟨Nat.le_of_ble_eq_true rfl, Nat.le_of_ble_eq_true rfl⟩) rfl rfl (Nat.le_of_ble_eq_true rfl) dL_law_718 ⟨by omega, by omega⟩ ?_
  intro r z1 K1 N1 I1 R1 ⟨hr1, hP⟩
  subst hr1
  have hS := hI.sh hP.1
  have e0 : I1 o = I o := (hP.1.row hI.1 0 (by omega)).1
  have e1 := (hP.1.row hI.1 1 (by omega)).1
  have e2 := (hP.1.row hI.1 2 (by omega)).1
  have e3 := (hP.1.row hI.1 3 (by omega)).1
  have e4 := (hP.1.row hI.1 4 (by omega)).1
  have e5 := (hP.1.row hI.1 5 (by omega)).1
  have hO : Ok (I1 (o + 1)) := by rw [e1]; exact hI.ok.1
  have hR : 0 ≤ I1 o 2 ∧ I1 o 2 ≤ 6 := by rw [e0]; exact hI.ok.2.1
  refine z_aload_n C dL_law_721 rfl ?_
  refine z_callVd C (ci := 7) rfl (by decide) hS.1 (mX7_undo l G hS hR ) (cwV 0 C.2.2.2.2.1 gvL_107 rfl rfl rfl hdL_X7_undo ⟨Nat.le_of_ble_eq_true rfl, Nat.le_of_ble_eq_true rfl⟩) rfl rfl (Nat.le_of_ble_eq_true rfl) dL_law_722 ⟨by omega, by omega⟩ ?_
  refine z_same C (tgt := 776) dL_law_725 (by decide) (by rw [e0]) ?_
  refine z_widen (by omega) (by omega) (kk _ _ _ _ _ ?_)
  have ho := hI.1
  split
  · rename_i hc
    rw [e0] at hc
    rw [if_pos hc, if_pos hc] at hP
    exact hI.fr hP
  · rename_i hc
    rw [e0] at hc
    rw [if_neg hc, if_neg hc] at hP
    refine hI.nxt hP (fun b hb => ?_) ?_ ?_ ?_ ?_ ?_ ?_ ?_ (fun j h1 h2 => ?_) hI.2.2.2.2.2
    · rw [va_up_n (by omega), u2_row (by omega)]
    · rw [va_up_s, e2, e1, e0]
    · rw [va_up_n (by omega), u2_row (by omega)]; exact e2
    · rw [va_up_n (by omega), u2_row (by omega)]; exact e3
    · rw [va_up_n (by omega), u2_row (by omega)]; exact e4
    · rw [va_up_n (by omega), u2_row (by omega)]; exact e5
    · rw [va_up_n (by omega), u2_s, e0]
    · rw [va_up_n (by omega), u2_k (by omega), e0]
    · rw [va_up_n (by omega), u2_k (by omega), e0]; exact hI.2.2.2.2.1 j h1 h2
theorem lw_c22 {p : Program} {l : Launch} {e : Env} {s : State} {m : MethodId} {below : List Frame} {meth : Method} {c : Code} {G : GG} {b : Nat} (C : Cx p l e room_1 s m #[Value.ref b] below meth c G cL_law 4 RL ret) {L : Nat} {xs : Nat → Int32} (hX : va_X b L xs s G.2.2) (hb0 : b < G.2.2.size) (hL8 : L ≤ 2048) {Q : State → Prop} {cells slots x o z : Nat} {K N : Nat → Nat} {I : MI} {R : MR} (hI : LI G x o z K N I R) {i : Nat} (hi : i + 4 ≤ L) (hr : cells + 160 ≤ room_1.cells ∧ slots + 2490 ≤ room_1.slots) (kk : ∀ (z9 : Nat) (K9 N9 : Nat → Nat) (I9 : MI) (R9 : MR), LI G x o z9 K9 N9 I9 R9 → Zq p l e room_1 s m #[Value.ref b] below meth c G 4 Q (cells + 160) (slots + 2490) z9 K9 N9 I9 R9 776 [(0, .ref b), (1, .ref x), (2, .ref o), (3, .int (zI (i : Int)))] []) : Zq p l e room_1 s m #[Value.ref b] below meth c G 4 Q cells slots z K N I R 730 [(0, .ref b), (1, .ref x), (2, .ref o), (3, .int (zI (i : Int)))] [] := by
  refine z_aload_n C dL_law_730 rfl ?_
  refine z_aload_n C dL_law_731 rfl ?_
  refine z_iload_n C dL_law_732 rfl ?_
  refine z_iconst C dL_law_733 ?_
  refine z_iadd C dL_law_734 ?_
  refine z_xld C hX hb0 hL8 dL_law_735 ⟨by omega, by omega⟩ ?_
  refine z_callV C (ci := 6) rfl (by decide) hI.2.2.1.1.1 (mX6_save l G hI.2.2.1 hI.2.1 (zI_rng _)) (cwV 1 C.2.2.2.2.1 gvL_108 rfl rfl rfl hdL_X6_save ⟨Nat.le_of_ble_eq_true rfl, Nat.le_of_ble_eq_true rfl⟩) rfl rfl (Nat.le_of_ble_eq_true rfl) dL_law_736 ⟨by omega, by omega⟩ ?_
  intro r z1 K1 N1 I1 R1 ⟨hr1, hP⟩
  subst hr1
  have hS := hI.sh hP.1
  have e0 : I1 o = I o := (hP.1.row hI.1 0 (by omega)).1
  have e1 := (hP.1.row hI.1 1 (by omega)).1
  have e2 := (hP.1.row hI.1 2 (by omega)).1
  have e3 := (hP.1.row hI.1 3 (by omega)).1
  have e4 := (hP.1.row hI.1 4 (by omega)).1
  have e5 := (hP.1.row hI.1 5 (by omega)).1
  have hO : Ok (I1 (o + 1)) := by rw [e1]; exact hI.ok.1
  have hR : 0 ≤ I1 o 2 ∧ I1 o 2 ≤ 6 := by rw [e0]; exact hI.ok.2.1
  refine z_aload_n C dL_law_739 rfl ?_
  refine z_aload_n C dL_law_740 rfl ?_
  refine z_iload_n C dL_law_741 rfl ?_
  refine z_iconst C dL_law_742 ?_
  refine z_iadd C dL_law_743 ?_
  refine z_xld C hX hb0 hL8 dL_law_744 ⟨by omega, by omega⟩ ?_
  refine z_callVd C (ci := 7) rfl (by decide) hS.1 (mX7_save l G hS  (zI_rng _)) (cwV 1 C.2.2.2.2.1 gvL_111 rfl rfl rfl hdL_X7_save ⟨Nat.le_of_ble_eq_true rfl, Nat.le_of_ble_eq_true rfl⟩) rfl rfl (Nat.le_of_ble_eq_true rfl) dL_law_745 ⟨by omega, by omega⟩ ?_
  refine z_same C (tgt := 776) dL_law_748 (by decide) (by rw [e1]) ?_
  refine z_widen (by omega) (by omega) (kk _ _ _ _ _ ?_)
  have ho := hI.1
  split
  · rename_i hc
    rw [if_pos hc, if_pos hc] at hP
    refine hI.nxt hP (fun b hb => ?_) ?_ ?_ ?_ ?_ ?_ ?_ ?_ (fun j h1 h2 => ?_) (fun k hk => ?_)
    · rw [u2_row (by omega), va_up_n (by omega)]
    · rw [u2_row (by omega), va_up_n (by omega)]; exact e1
    · rw [u2_row (by omega), va_up_n (by omega)]; exact e2
    · rw [u2_row (by omega), va_up_s, e1, e3]
    · rw [u2_st, va_up_s, va_up_n (by omega), e4]
    · rw [u2_row (by omega), va_up_n (by omega)]; exact e5
    · rw [u2_row (by omega), va_up_n (by omega), e0]
    · rw [u2_row (by omega), va_up_n (by omega), e0]
    · rw [u2_row (by omega), va_up_n (by omega), e0]; exact hI.2.2.2.2.1 j h1 h2
    · unfold st1
      split
      · exact Or.inr rfl
      · exact hI.2.2.2.2.2 k hk
  · rename_i hc
    rw [if_neg hc, if_neg hc] at hP
    exact hI.fr hP
theorem lw_c23 {p : Program} {l : Launch} {e : Env} {s : State} {m : MethodId} {below : List Frame} {meth : Method} {c : Code} {G : GG} {b : Nat} (C : Cx p l e room_1 s m #[Value.ref b] below meth c G cL_law 4 RL ret) {L : Nat} {xs : Nat → Int32} (hX : va_X b L xs s G.2.2) (hb0 : b < G.2.2.size) (hL8 : L ≤ 2048) {Q : State → Prop} {cells slots x o z : Nat} {K N : Nat → Nat} {I : MI} {R : MR} (hI : LI G x o z K N I R) {i : Nat} (hi : i + 4 ≤ L) (hr : cells + 160 ≤ room_1.cells ∧ slots + 2490 ≤ room_1.slots) (kk : ∀ (z9 : Nat) (K9 N9 : Nat → Nat) (I9 : MI) (R9 : MR), LI G x o z9 K9 N9 I9 R9 → Zq p l e room_1 s m #[Value.ref b] below meth c G 4 Q (cells + 160) (slots + 2490) z9 K9 N9 I9 R9 776 [(0, .ref b), (1, .ref x), (2, .ref o), (3, .int (zI (i : Int)))] []) : Zq p l e room_1 s m #[Value.ref b] below meth c G 4 Q cells slots z K N I R 753 [(0, .ref b), (1, .ref x), (2, .ref o), (3, .int (zI (i : Int)))] [] := by
  refine z_aload_n C dL_law_753 rfl ?_
  refine z_aload_n C dL_law_754 rfl ?_
  refine z_iload_n C dL_law_755 rfl ?_
  refine z_iconst C dL_law_756 ?_
  refine z_iadd C dL_law_757 ?_
  refine z_xld C hX hb0 hL8 dL_law_758 ⟨by omega, by omega⟩ ?_
  refine z_callV C (ci := 6) rfl (by decide) hI.2.2.1.1.1 (mX6_restore l G hI.2.2.1 hI.2.1 (zI_rng _)) (cwV 1 C.2.2.2.2.1 gvL_112 rfl rfl rfl hdL_X6_restore ⟨Nat.le_of_ble_eq_true rfl, Nat.le_of_ble_eq_true rfl⟩) rfl rfl (Nat.le_of_ble_eq_true rfl) dL_law_759 ⟨by omega, by omega⟩ ?_
  intro r z1 K1 N1 I1 R1 ⟨hr1, hP⟩
  subst hr1
  have hS := hI.sh hP.1
  have e0 : I1 o = I o := (hP.1.row hI.1 0 (by omega)).1
  have e1 := (hP.1.row hI.1 1 (by omega)).1
  have e2 := (hP.1.row hI.1 2 (by omega)).1
  have e3 := (hP.1.row hI.1 3 (by omega)).1
  have e4 := (hP.1.row hI.1 4 (by omega)).1
  have e5 := (hP.1.row hI.1 5 (by omega)).1
  have hO : Ok (I1 (o + 1)) := by rw [e1]; exact hI.ok.1
  have hR : 0 ≤ I1 o 2 ∧ I1 o 2 ≤ 6 := by rw [e0]; exact hI.ok.2.1
  have hV : ∀ k : Nat, k < 2 → I1 (o + 4) k = 0 ∨ I1 (o + 4) k = 1 := by rw [e4]; exact hI.2.2.2.2.2
  refine z_aload_n C dL_law_762 rfl ?_
  refine z_aload_n C dL_law_763 rfl ?_
  refine z_iload_n C dL_law_764 rfl ?_
  refine z_iconst C dL_law_765 ?_
  refine z_iadd C dL_law_766 ?_
  refine z_xld C hX hb0 hL8 dL_law_767 ⟨by omega, by omega⟩ ?_
  refine z_callVd C (ci := 7) rfl (by decide) hS.1 (mX7_restore l G hS hR hV (zI_rng _)) (cwV 1 C.2.2.2.2.1 gvL_115 rfl rfl rfl hdL_X7_restore ⟨Nat.le_of_ble_eq_true rfl, Nat.le_of_ble_eq_true rfl⟩) rfl rfl (Nat.le_of_ble_eq_true rfl) dL_law_768 ⟨by omega, by omega⟩ ?_
  refine z_same C (tgt := 776) dL_law_771 (by decide) (by rw [e4, e3, e1]) ?_
  refine z_widen (by omega) (by omega) (kk _ _ _ _ _ ?_)
  refine hI.std ?_ hP (fun hc => by rw [e4] at hc; rw [e3, e1]; exact (if_pos hc).symm)
  rw [e4]
  constructor
  · intro h0
    repeat' split at h0
    all_goals first | omega | exact ⟨by assumption, by assumption⟩
  · intro h0
    rw [if_pos h0.1, if_neg h0.2]
    exact hI.sv (by omega) h0.2
