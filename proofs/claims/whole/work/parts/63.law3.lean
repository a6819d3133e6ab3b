theorem lw_c0 {p : Program} {l : Launch} {e : Env} {s : State} {m : MethodId} {below : List Frame} {meth : Method} {c : Code} {G : GG} {b : Nat} (C : Cx p l e room_1 s m #[Value.ref b] below meth c G cL_law 4 RL ret) {L : Nat} {xs : Nat → Int32} (hX : va_X b L xs s G.2.2) (hb0 : b < G.2.2.size) (hL8 : L ≤ 2048) {Q : State → Prop} {cells slots x o z : Nat} {K N : Nat → Nat} {I : MI} {R : MR} (hI : LI G x o z K N I R) {i : Nat} (hi : i + 4 ≤ L) (hr : cells + 160 ≤ room_1.cells ∧ slots + 2490 ≤ room_1.slots) (kk : ∀ (z9 : Nat) (K9 N9 : Nat → Nat) (I9 : MI) (R9 : MR), LI G x o z9 K9 N9 I9 R9 → Zq p l e room_1 s m #[Value.ref b] below meth c G 4 Q (cells + 160) (slots + 2490) z9 K9 N9 I9 R9 776 [(0, .ref b), (1, .ref x), (2, .ref o), (3, .int (zI (i : Int)))] []) : Zq p l e room_1 s m #[Value.ref b] below meth c G 4 Q cells slots z K N I R 144 [(0, .ref b), (1, .ref x), (2, .ref o), (3, .int (zI (i : Int)))] [] := by
  refine z_aload_n C dL_law_144 rfl ?_
  refine z_aload_n C dL_law_145 rfl ?_
  refine z_iload_n C dL_law_146 rfl ?_
  refine z_iconst C dL_law_147 ?_
  refine z_iadd C dL_law_148 ?_
  refine z_xld C hX hb0 hL8 dL_law_149 ⟨by omega, by omega⟩ ?_
  refine z_aload_n C dL_law_150 rfl ?_
  refine z_iload_n C dL_law_151 rfl ?_
  refine z_iconst C dL_law_152 ?_
  refine z_iadd C dL_law_153 ?_
  refine z_xld C hX hb0 hL8 dL_law_154 ⟨by omega, by omega⟩ ?_
  refine z_callV C (ci := 6) rfl (by decide) hI.2.2.1.1.1 (mX6_set l G hI.2.2.1 hI.2.1 (zI_rng _) (zI_rng _)) (cwV 2 C.2.2.2.2.1 gvL_13 rfl rfl rfl hdL_X6_set ⟨Nat.le_of_ble_eq_true rfl, Nat.le_of_ble_eq_true rfl⟩) rfl rfl (Nat.le_of_ble_eq_true rfl) dL_law_155 ⟨by omega, by omega⟩ ?_
  intro r z1 K1 N1 I1 R1 ⟨hr1, hP⟩
  subst hr1
  have hS := hI.sh hP.1
  have e0 : I1 o = I o := (hP.1.row hI.1 0 (by omega)).1
  have e1 := (hP.1.row hI.1 1 (by omega)).1
  have e2 := (hP.1.row hI.1 2 (by omega)).1
  have e3 := (hP.1.row hI.1 3 (by omega)).1
  have e4 := (hP.1.row hI.1 4 (by omega)).1
  have e5 := (hP.1.row hI.1 5 (by omega)).1
  have hO : Ok (I1 (o + 1)) := by rw [e1]; exact hI.ok.1
  have hR : 0 ≤ I1 o 2 ∧ I1 o 2 ≤ 6 := by rw [e0]; exact hI.ok.2.1
  refine z_aload_n C dL_law_158 rfl ?_
  refine z_aload_n C dL_law_159 rfl ?_
  refine z_iload_n C dL_law_160 rfl ?_
  refine z_iconst C dL_law_161 ?_
  refine z_iadd C dL_law_162 ?_
  refine z_xld C hX hb0 hL8 dL_law_163 ⟨by omega, by omega⟩ ?_
  refine z_aload_n C dL_law_164 rfl ?_
  refine z_iload_n C dL_law_165 rfl ?_
  refine z_iconst C dL_law_166 ?_
  refine z_iadd C dL_law_167 ?_
  refine z_xld C hX hb0 hL8 dL_law_168 ⟨by omega, by omega⟩ ?_
  refine z_callVd C (ci := 7) rfl (by decide) hS.1 (mX7_set l G hS hO hR (zI_rng _) (zI_rng _)) (cwV 2 C.2.2.2.2.1 gvL_17 rfl rfl rfl hdL_X7_set ⟨Nat.le_of_ble_eq_true rfl, Nat.le_of_ble_eq_true rfl⟩) rfl rfl (Nat.le_of_ble_eq_true rfl) dL_law_169 ⟨by omega, by omega⟩ ?_
  refine z_same C (tgt := 776) dL_law_172 (by decide) (by rw [e1]; first | done | rfl) ?_
  refine z_widen (by omega) (by omega) (kk _ _ _ _ _ ?_)
  exact hI.std (by (try rw [e1]); exact (aSet_ok hI.ok.1 _ _).2.1) hP (fun hc => by (try rw [e1] at hc); (try rw [e1]); exact (if_pos hc).symm)
theorem lw_c1 {p : Program} {l : Launch} {e : Env} {s : State} {m : MethodId} {below : List Frame} {meth : Method} {c : Code} {G : GG} {b : Nat} (C : Cx p l e room_1 s m #[Value.ref b] below meth c G cL_law 4 RL ret) {L : Nat} {xs : Nat → Int32} (hX : va_X b L xs s G.2.2) (hb0 : b < G.2.2.size) (hL8 : L ≤ 2048) {Q : State → Prop} {cells slots x o z : Nat} {K N : Nat → Nat} {I : MI} {R : MR} (hI : LI G x o z K N I R) {i : Nat} (hi : i + 4 ≤ L) (hr : cells + 160 ≤ room_1.cells ∧ slots + 2490 ≤ room_1.slots) (kk : ∀ (z9 : Nat) (K9 N9 : Nat → Nat) (I9 : MI) (R9 : MR), LI G x o z9 K9 N9 I9 R9 → Zq p l e room_1 s m #[Value.ref b] below meth c G 4 Q (cells + 160) (slots + 2490) z9 K9 N9 I9 R9 776 [(0, .ref b), (1, .ref x), (2, .ref o), (3, .int (zI (i : Int)))] []) : Zq p l e room_1 s m #[Value.ref b] below meth c G 4 Q cells slots z K N I R 177 [(0, .ref b), (1, .ref x), (2, .ref o), (3, .int (zI (i : Int)))] [] := by
  refine z_aload_n C dL_law_177 rfl ?_
  refine z_aload_n C dL_law_178 rfl ?_
  refine z_iload_n C dL_law_179 rfl ?_
  refine z_iconst C dL_law_180 ?_
  refine z_iadd C dL_law_181 ?_
  refine z_xld C hX hb0 hL8 dL_law_182 ⟨by omega, by omega⟩ ?_
  refine z_callV C (ci := 6) rfl (by decide) hI.2.2.1.1.1 (mX6_ring l G hI.2.2.1 hI.2.1 (zI_rng _)) (cwV 1 C.2.2.2.2.1 gvL_18 rfl rfl rfl hdL_X6_ring ⟨Nat.le_of_ble_eq_true rfl, Nat.le_of_ble_eq_true rfl⟩) rfl rfl (Nat.le_of_ble_eq_true rfl) dL_law_183 ⟨by omega, by omega⟩ ?_
  intro r z1 K1 N1 I1 R1 ⟨hr1, hP⟩
  subst hr1
  have hS := hI.sh hP.1
  have e0 : I1 o = I o := (hP.1.row hI.1 0 (by omega)).1
  have e1 := (hP.1.row hI.1 1 (by omega)).1
  have e2 := (hP.1.row hI.1 2 (by omega)).1
  have e3 := (hP.1.row hI.1 3 (by omega)).1
  have e4 := (hP.1.row hI.1 4 (by omega)).1
  have e5 := (hP.1.row hI.1 5 (by omega)).1
  have hO : Ok (I1 (o + 1)) := by rw [e1]; exact hI.ok.1
  have hR : 0 ≤ I1 o 2 ∧ I1 o 2 ≤ 6 := by rw [e0]; exact hI.ok.2.1
  refine z_aload_n C dL_law_186 rfl ?_
  refine z_aload_n C dL_law_187 rfl ?_
  refine z_iload_n C dL_law_188 rfl ?_
  refine z_iconst C dL_law_189 ?_
  refine z_iadd C dL_law_190 ?_
  refine z_xld C hX hb0 hL8 dL_law_191 ⟨by omega, by omega⟩ ?_
  refine z_callVd C (ci := 7) rfl (by decide) hS.1 (mX7_ring l G hS hO hR (zI_rng _)) (cwV 1 C.2.2.2.2.1 gvL_22 rfl rfl rfl hdL_X7_ring ⟨Nat.le_of_ble_eq_true rfl, Nat.le_of_ble_eq_true rfl⟩) rfl rfl (Nat.le_of_ble_eq_true rfl) dL_law_192 ⟨by omega, by omega⟩ ?_
  refine z_same C (tgt := 776) dL_law_195 (by decide) (by rw [e1]; first | done | rfl) ?_
  refine z_widen (by omega) (by omega) (kk _ _ _ _ _ ?_)
  exact hI.std (by (try rw [e1]); exact (aRin_ok hI.ok.1 _).2.1) hP (fun hc => by (try rw [e1] at hc); (try rw [e1]); exact (if_pos hc).symm)
theorem lw_c2 {p : Program} {l : Launch} {e : Env} {s : State} {m : MethodId} {below : List Frame} {meth : Method} {c : Code} {G : GG} {b : Nat} (C : Cx p l e room_1 s m #[Value.ref b] below meth c G cL_law 4 RL ret) {L : Nat} {xs : Nat → Int32} (hX : va_X b L xs s G.2.2) (hb0 : b < G.2.2.size) (hL8 : L ≤ 2048) {Q : State → Prop} {cells slots x o z : Nat} {K N : Nat → Nat} {I : MI} {R : MR} (hI : LI G x o z K N I R) {i : Nat} (hi : i + 4 ≤ L) (hr : cells + 160 ≤ room_1.cells ∧ slots + 2490 ≤ room_1.slots) (kk : ∀ (z9 : Nat) (K9 N9 : Nat → Nat) (I9 : MI) (R9 : MR), LI G x o z9 K9 N9 I9 R9 → Zq p l e room_1 s m #[Value.ref b] below meth c G 4 Q (cells + 160) (slots + 2490) z9 K9 N9 I9 R9 776 [(0, .ref b), (1, .ref x), (2, .ref o), (3, .int (zI (i : Int)))] []) : Zq p l e room_1 s m #[Value.ref b] below meth c G 4 Q cells slots z K N I R 200 [(0, .ref b), (1, .ref x), (2, .ref o), (3, .int (zI (i : Int)))] [] := by
  refine z_aload_n C dL_law_200 rfl ?_
  refine z_callV C (ci := 6) rfl (by decide) hI.2.2.1.1.1 (mX6_lose l G hI.2.2.1 hI.2.1 ) (cwV 0 C.2.2.2.2.1 gvL_23 rfl rfl rfl hdL_X6_lose ⟨Nat.le_of_ble_eq_true rfl, Nat.le_of_ble_eq_true rfl⟩) rfl rfl (Nat.le_of_ble_eq_true rfl) dL_law_201 ⟨by omega, by omega⟩ ?_
  intro r z1 K1 N1 I1 R1 ⟨hr1, hP⟩
  subst hr1
  have hS := hI.sh hP.1
  have e0 : I1 o = I o := (hP.1.row hI.1 0 (by omega)).1
  have e1 := (hP.1.row hI.1 1 (by omega)).1
  have e2 := (hP.1.row hI.1 2 (by omega)).1
  have e3 := (hP.1.row hI.1 3 (by omega)).1
  have e4 := (hP.1.row hI.1 4 (by omega)).1
  have e5 := (hP.1.row hI.1 5 (by omega)).1
  have hO : Ok (I1 (o + 1)) := by rw [e1]; exact hI.ok.1
  have hR : 0 ≤ I1 o 2 ∧ I1 o 2 ≤ 6 := by rw [e0]; exact hI.ok.2.1
  refine z_aload_n C dL_law_204 rfl ?_
  refine z_callVd C (ci := 7) rfl (by decide) hS.1 (mX7_lose l G hS hO hR ) (cwV 0 C.2.2.2.2.1 gvL_27 rfl rfl rfl hdL_X7_lose ⟨Nat.le_of_ble_eq_true rfl, Nat.le_of_ble_eq_true rfl⟩) rfl rfl (Nat.le_of_ble_eq_true rfl) dL_law_205 ⟨by omega, by omega⟩ ?_
  refine z_same C (tgt := 776) dL_law_208 (by decide) (by rw [e1]; first | done | rfl) ?_
  refine z_widen (by omega) (by omega) (kk _ _ _ _ _ ?_)
  have q9 := hI.std (cn := ¬ I1 (o + 1) 3 = 0) (F := loseF (I1 (o + 1))) (by rw [e1]; exact (aLos_ok hI.ok.1).2.1) hP (fun hc => by rw [e1] at hc ⊢; exact (if_neg hc).symm)
  rw [ite_not] at q9
  exact q9
theorem lw_c3 {p : Program} {l : Launch} {e : Env} {s : State} {m : MethodId} {below : List Frame} {meth : Method} {c : Code} {G : GG} {b : Nat} (C : Cx p l e room_1 s m #[Value.ref b] below meth c G cL_law 4 RL ret) {L : Nat} {xs : Nat → Int32} (hX : va_X b L xs s G.2.2) (hb0 : b < G.2.2.size) (hL8 : L ≤ 2048) {Q : State → Prop} {cells slots x o z : Nat} {K N : Nat → Nat} {I : MI} {R : MR} (hI : LI G x o z K N I R) {i : Nat} (hi : i + 4 ≤ L) (hr : cells + 160 ≤ room_1.cells ∧ slots + 2490 ≤ room_1.slots) (kk : ∀ (z9 : Nat) (K9 N9 : Nat → Nat) (I9 : MI) (R9 : MR), LI G x o z9 K9 N9 I9 R9 → Zq p l e room_1 s m #[Value.ref b] below meth c G 4 Q (cells + 160) (slots + 2490) z9 K9 N9 I9 R9 776 [(0, .ref b), (1, .ref x), (2, .ref o), (3, .int (zI (i : Int)))] []) : Zq p l e room_1 s m #[Value.ref b] below meth c G 4 Q cells slots z K N I R 213 [(0, .ref b), (1, .ref x), (2, .ref o), (3, .int (zI (i : Int)))] [] := by
  refine z_aload_n C dL_law_213 rfl ?_
  refine z_aload_n C dL_law_214 rfl ?_
  refine z_iload_n C dL_law_215 rfl ?_
  refine z_iconst C dL_law_216 ?_
  refine z_iadd C dL_law_217 ?_
  refine z_xld C hX hb0 hL8 dL_law_218 ⟨by omega, by omega⟩ ?_
  refine z_callV C (ci := 6) rfl (by decide) hI.2.2.1.1.1 (mX6_stack l G hI.2.2.1 hI.2.1 (zI_rng _)) (cwV 1 C.2.2.2.2.1 gvL_28 rfl rfl rfl hdL_X6_stack ⟨Nat.le_of_ble_eq_true rfl, Nat.le_of_ble_eq_true rfl⟩) rfl rfl (Nat.le_of_ble_eq_true rfl) dL_law_219 ⟨by omega, by omega⟩ ?_
  intro r z1 K1 N1 I1 R1 ⟨hr1, hP⟩
  subst hr1
  have hS := hI.sh hP.1
  have e0 : I1 o = I o := (hP.1.row hI.1 0 (by omega)).1
  have e1 := (hP.1.row hI.1 1 (by omega)).1
  have e2 := (hP.1.row hI.1 2 (by omega)).1
  have e3 := (hP.1.row hI.1 3 (by omega)).1
  have e4 := (hP.1.row hI.1 4 (by omega)).1
  have e5 := (hP.1.row hI.1 5 (by omega)).1
  have hO : Ok (I1 (o + 1)) := by rw [e1]; exact hI.ok.1
  have hR : 0 ≤ I1 o 2 ∧ I1 o 2 ≤ 6 := by rw [e0]; exact hI.ok.2.1
  refine z_aload_n C dL_law_222 rfl ?_
  refine z_aload_n C dL_law_223 rfl ?_
  refine z_iload_n C dL_law_224 rfl ?_
  refine z_iconst C dL_law_225 ?_
  refine z_iadd C dL_law_226 ?_
  refine z_xld C hX hb0 hL8 dL_law_227 ⟨by omega, by omega⟩ ?_
  refine z_callVd C (ci := 7) rfl (by decide) hS.1 (mX7_stack l G hS hO hR (zI_rng _)) (cwV 1 C.2.2.2.2.1 gvL_31 rfl rfl rfl hdL_X7_stack ⟨Nat.le_of_ble_eq_true rfl, Nat.le_of_ble_eq_true rfl⟩) rfl rfl (Nat.le_of_ble_eq_true rfl) dL_law_228 ⟨by omega, by omega⟩ ?_
  refine z_same C (tgt := 776) dL_law_231 (by decide) (by rw [e1]; first | done | rfl) ?_
  refine z_widen (by omega) (by omega) (kk _ _ _ _ _ ?_)
  exact hI.std (by (try rw [e1]); exact (aMov_ok hI.ok.1 _ _).2.1) hP (fun hc => by (try rw [e1] at hc); (try rw [e1]); exact (if_pos hc).symm)
theorem lw_c4 {p : Program} {l : Launch} {e : Env} {s : State} {m : MethodId} {below : List Frame} {meth : Method} {c : Code} {G : GG} {b : Nat} (C : Cx p l e room_1 s m #[Value.ref b] below meth c G cL_law 4 RL ret) {L : Nat} {xs : Nat → Int32} (hX : va_X b L xs s G.2.2) (hb0 : b < G.2.2.size) (hL8 : L ≤ 2048) {Q : State → Prop} {cells slots x o z : Nat} {K N : Nat → Nat} {I : MI} {R : MR} (hI : LI G x o z K N I R) {i : Nat} (hi : i + 4 ≤ L) (hr : cells + 160 ≤ room_1.cells ∧ slots + 2490 ≤ room_1.slots) (kk : ∀ (z9 : Nat) (K9 N9 : Nat → Nat) (I9 : MI) (R9 : MR), LI G x o z9 K9 N9 I9 R9 → Zq p l e room_1 s m #[Value.ref b] below meth c G 4 Q (cells + 160) (slots + 2490) z9 K9 N9 I9 R9 776 [(0, .ref b), (1, .ref x), (2, .ref o), (3, .int (zI (i : Int)))] []) : Zq p l e room_1 s m #[Value.ref b] below meth c G 4 Q cells slots z K N I R 236 [(0, .ref b), (1, .ref x), (2, .ref o), (3, .int (zI (i : Int)))] [] := by
  refine z_aload_n C dL_law_236 rfl ?_
  refine z_aload_n C dL_law_237 rfl ?_
  refine z_iload_n C dL_law_238 rfl ?_
  refine z_iconst C dL_law_239 ?_
  refine z_iadd C dL_law_240 ?_
  refine z_xld C hX hb0 hL8 dL_law_241 ⟨by omega, by omega⟩ ?_
  refine z_callV C (ci := 6) rfl (by decide) hI.2.2.1.1.1 (mX6_take l G hI.2.2.1 hI.2.1 (zI_rng _)) (cwV 1 C.2.2.2.2.1 gvL_32 rfl rfl rfl hdL_X6_take ⟨Nat.le_of_ble_eq_true rfl, Nat.le_of_ble_eq_true rfl⟩) rfl rfl (Nat.le_of_ble_eq_true rfl) dL_law_242 ⟨by omega, by omega⟩ ?_
  intro r z1 K1 N1 I1 R1 ⟨hr1, hP⟩
  subst hr1
  have hS := hI.sh hP.1
  have e0 : I1 o = I o := (hP.1.row hI.1 0 (by omega)).1
  have e1 := (hP.1.row hI.1 1 (by omega)).1
  have e2 := (hP.1.row hI.1 2 (by omega)).1
  have e3 := (hP.1.row hI.1 3 (by omega)).1
  have e4 := (hP.1.row hI.1 4 (by omega)).1
  have e5 := (hP.1.row hI.1 5 (by omega)).1
  have hO : Ok (I1 (o + 1)) := by rw [e1]; exact hI.ok.1
  have hR : 0 ≤ I1 o 2 ∧ I1 o 2 ≤ 6 := by rw [e0]; exact hI.ok.2.1
  refine z_aload_n C dL_law_245 rfl ?_
  refine z_aload_n C dL_law_246 rfl ?_
  refine z_iload_n C dL_law_247 rfl ?_
  refine z_iconst C dL_law_248 ?_
  refine z_iadd C dL_law_249 ?_
  refine z_xld C hX hb0 hL8 dL_law_250 ⟨by omega, by omega⟩ ?_
  refine z_callVd C (ci := 7) rfl (by decide) hS.1 (mX7_take l G hS hO hR (zI_rng _)) (cwV 1 C.2.2.2.2.1 gvL_35 rfl rfl rfl hdL_X7_take ⟨Nat.le_of_ble_eq_true rfl, Nat.le_of_ble_eq_true rfl⟩) rfl rfl (Nat.le_of_ble_eq_true rfl) dL_law_251 ⟨by omega, by omega⟩ ?_
  refine z_same C (tgt := 776) dL_law_254 (by decide) (by rw [e1]; first | done | rfl) ?_
  refine z_widen (by omega) (by omega) (kk _ _ _ _ _ ?_)
  exact hI.std (by (try rw [e1]); exact (aMov_ok hI.ok.1 _ _).2.1) hP (fun hc => by (try rw [e1] at hc); (try rw [e1]); exact (if_pos hc).symm)
theorem lw_c5 {p : Program} {l : Launch} {e : Env} {s : State} {m : MethodId} {below : List Frame} {meth : Method} {c : Code} {G : GG} {b : Nat} (C : Cx p l e room_1 s m #[Value.ref b] below meth c G cL_law 4 RL ret) {L : Nat} {xs : Nat → Int32} (hX : va_X b L xs s G.2.2) (hb0 : b < G.2.2.size) (hL8 : L ≤ 2048) {Q : State → Prop} {cells slots x o z : Nat} {K N : Nat → Nat} {I : MI} {R : MR} (hI : LI G x o z K N I R) {i : Nat} (hi : i + 4 ≤ L) (hr : cells + 160 ≤ room_1.cells ∧ slots + 2490 ≤ room_1.slots) (kk : ∀ (z9 : Nat) (K9 N9 : Nat → Nat) (I9 : MI) (R9 : MR), LI G x o z9 K9 N9 I9 R9 → Zq p l e room_1 s m #[Value.ref b] below meth c G 4 Q (cells + 160) (slots + 2490) z9 K9 N9 I9 R9 776 [(0, .ref b), (1, .ref x), (2, .ref o), (3, .int (zI (i : Int)))] []) : Zq p l e room_1 s m #[Value.ref b] below meth c G 4 Q cells slots z K N I R 259 [(0, .ref b), (1, .ref x), (2, .ref o), (3, .int (zI (i : Int)))] [] := by
  refine z_aload_n C dL_law_259 rfl ?_
  refine z_aload_n C dL_law_260 rfl ?_
  refine z_iload_n C dL_law_261 rfl ?_
  refine z_iconst C dL_law_262 ?_
  refine z_iadd C dL_law_263 ?_
  refine z_xld C hX hb0 hL8 dL_law_264 ⟨by omega, by omega⟩ ?_
  refine z_aload_n C dL_law_265 rfl ?_
  refine z_iload_n C dL_law_266 rfl ?_
  refine z_iconst C dL_law_267 ?_
  refine z_iadd C dL_law_268 ?_
  refine z_xld C hX hb0 hL8 dL_law_269 ⟨by omega, by omega⟩ ?_
  refine z_aload_n C dL_law_270 rfl ?_
  refine z_iload_n C dL_law_271 rfl ?_
  refine z_iconst C dL_law_272 ?_
  refine z_iadd C dL_law_273 ?_
  refine z_xld C hX hb0 hL8 dL_law_274 ⟨by omega, by omega⟩ ?_
  refine z_callV C (ci := 6) rfl (by decide) hI.2.2.1.1.1 (mX6_gauge l G hI.2.2.1 hI.2.1 (zI_rng _) (zI_rng _) (zI_rng _)) (cwV 3 C.2.2.2.2.1 gvL_36 rfl rfl rfl hdL_X6_gauge ⟨Nat.le_of_ble_eq_true rfl, Nat.le_of_ble_eq_true rfl⟩) rfl rfl (Nat.le_of_ble_eq_true rfl) dL_law_275 ⟨by omega, by omega⟩ ?_
  intro r z1 K1 N1 I1 R1 ⟨hr1, hP⟩
  subst hr1
  have hS := hI.sh hP.1
  have e0 : I1 o = I o := (hP.1.row hI.1 0 (by omega)).1
  have e1 := (hP.1.row hI.1 1 (by omega)).1
  have e2 := (hP.1.row hI.1 2 (by omega)).1
  have e3 := (hP.1.row hI.1 3 (by omega)).1
  have e4 := (hP.1.row hI.1 4 (by omega)).1
  have e5 := (hP.1.row hI.1 5 (by omega)).1
  have hO : Ok (I1 (o + 1)) := by rw [e1]; exact hI.ok.1
  have hR : 0 ≤ I1 o 2 ∧ I1 o 2 ≤ 6 := by rw [e0]; exact hI.ok.2.1
  refine z_aload_n C dL_law_278 rfl ?_
  refine z_aload_n C dL_law_279 rfl ?_
  refine z_iload_n C dL_law_280 rfl ?_
  refine z_iconst C dL_law_281 ?_
  refine z_iadd C dL_law_282 ?_
  refine z_xld C hX hb0 hL8 dL_law_283 ⟨by omega, by omega⟩ ?_
  refine z_aload_n C dL_law_284 rfl ?_
  refine z_iload_n C dL_law_285 rfl ?_
  refine z_iconst C dL_law_286 ?_
  refine z_iadd C dL_law_287 ?_
  refine z_xld C hX hb0 hL8 dL_law_288 ⟨by omega, by omega⟩ ?_
  refine z_aload_n C dL_law_289 rfl ?_
  refine z_iload_n C dL_law_290 rfl ?_
  refine z_iconst C dL_law_291 ?_
  refine z_iadd C dL_law_292 ?_
  refine z_xld C hX hb0 hL8 dL_law_293 ⟨by omega, by omega⟩ ?_
  refine z_callVd C (ci := 7) rfl (by decide) hS.1 (mX7_gauge l G hS hO hR (zI_rng _) (zI_rng _) (zI_rng _)) (cwV 3 C.2.2.2.2.1 gvL_40 rfl rfl rfl hdL_X7_gauge ⟨Nat.le_of_ble_eq_true rfl, Nat.le_of_ble_eq_true rfl⟩) rfl rfl (Nat.le_of_ble_eq_true rfl) dL_law_294 ⟨by omega, by omega⟩ ?_
  refine z_same C (tgt := 776) dL_law_297 (by decide) (by rw [e1]; first | done | rfl) ?_
  refine z_widen (by omega) (by omega) (kk _ _ _ _ _ ?_)
  exact hI.std (by (try rw [e1]); exact (aGau_ok hI.ok.1 _ _ _).2.1) hP (fun hc => by (try rw [e1] at hc); (try rw [e1]); exact (if_pos hc).symm)
theorem lw_c6 {p : Program} {l : Launch} {e : Env} {s : State} {m : MethodId} {below : List Frame} {meth : Method} {c : Code} {G : GG} {b : Nat} (C : Cx p l e room_1 s m #[Value.ref b] below meth c G cL_law 4 RL ret) {L : Nat} {xs : Nat → Int32} (hX : va_X b L xs s G.2.2) (hb0 : b < G.2.2.size) (hL8 : L ≤ 2048) {Q : State → Prop} {cells slots x o z : Nat} {K N : Nat → Nat} {I : MI} {R : MR} (hI : LI G x o z K N I R) {i : Nat} (hi : i + 4 ≤ L) (hr : cells + 160 ≤ room_1.cells ∧ slots + 2490 ≤ room_1.slots) (kk : ∀ (z9 : Nat) (K9 N9 : Nat → Nat) (I9 : MI) (R9 : MR), LI G x o z9 K9 N9 I9 R9 → Zq p l e room_1 s m #[Value.ref b] below meth c G 4 Q (cells + 160) (slots + 2490) z9 K9 N9 I9 R9 776 [(0, .ref b), (1, .ref x), (2, .ref o), (3, .int (zI (i : Int)))] []) : Zq p l e room_1 s m #[Value.ref b] below meth c G 4 Q cells slots z K N I R 302 [(0, .ref b), (1, .ref x), (2, .ref o), (3, .int (zI (i : Int)))] [] := by
  refine z_aload_n C dL_law_302 rfl ?_
  refine z_aload_n C dL_law_303 rfl ?_
  refine z_iload_n C dL_law_304 rfl ?_
  refine z_iconst C dL_law_305 ?_
  refine z_iadd C dL_law_306 ?_
  refine z_xld C hX hb0 hL8 dL_law_307 ⟨by omega, by omega⟩ ?_
  refine z_aload_n C dL_law_308 rfl ?_
  refine z_iload_n C dL_law_309 rfl ?_
  refine z_iconst C dL_law_310 ?_
  refine z_iadd C dL_law_311 ?_
  refine z_xld C hX hb0 hL8 dL_law_312 ⟨by omega, by omega⟩ ?_
  refine z_callV C (ci := 6) rfl (by decide) hI.2.2.1.1.1 (mX6_tune l G hI.2.2.1 hI.2.1 (zI_rng _) (zI_rng _)) (cwV 2 C.2.2.2.2.1 gvL_41 rfl rfl rfl hdL_X6_tune ⟨Nat.le_of_ble_eq_true rfl, Nat.le_of_ble_eq_true rfl⟩) rfl rfl (Nat.le_of_ble_eq_true rfl) dL_law_313 ⟨by omega, by omega⟩ ?_
  intro r z1 K1 N1 I1 R1 ⟨hr1, hP⟩
  subst hr1
  have hS := hI.sh hP.1
  have e0 : I1 o = I o := (hP.1.row hI.1 0 (by omega)).1
  have e1 := (hP.1.row hI.1 1 (by omega)).1
  have e2 := (hP.1.row hI.1 2 (by omega)).1
  have e3 := (hP.1.row hI.1 3 (by omega)).1
  have e4 := (hP.1.row hI.1 4 (by omega)).1
  have e5 := (hP.1.row hI.1 5 (by omega)).1
  have hO : Ok (I1 (o + 1)) := by rw [e1]; exact hI.ok.1
  have hR : 0 ≤ I1 o 2 ∧ I1 o 2 ≤ 6 := by rw [e0]; exact hI.ok.2.1
  refine z_aload_n C dL_law_316 rfl ?_
  refine z_aload_n C dL_law_317 rfl ?_
  refine z_iload_n C dL_law_318 rfl ?_
  refine z_iconst C dL_law_319 ?_
  refine z_iadd C dL_law_320 ?_
  refine z_xld C hX hb0 hL8 dL_law_321 ⟨by omega, by omega⟩ ?_
  refine z_aload_n C dL_law_322 rfl ?_
  refine z_iload_n C dL_law_323 rfl ?_
  refine z_iconst C dL_law_324 ?_
  refine z_iadd C dL_law_325 ?_
  refine z_xld C hX hb0 hL8 dL_law_326 ⟨by omega, by omega⟩ ?_
  refine z_callVd C (ci := 7) rfl (by decide) hS.1 (mX7_tune l G hS hO hR (zI_rng _) (zI_rng _)) (cwV 2 C.2.2.2.2.1 gvL_44 rfl rfl rfl hdL_X7_tune ⟨Nat.le_of_ble_eq_true rfl, Nat.le_of_ble_eq_true rfl⟩) rfl rfl (Nat.le_of_ble_eq_true rfl) dL_law_327 ⟨by omega, by omega⟩ ?_
  refine z_same C (tgt := 776) dL_law_330 (by decide) (by rw [e1]; first | done | rfl) ?_
  refine z_widen (by omega) (by omega) (kk _ _ _ _ _ ?_)
  exact hI.std (by (try rw [e1]); exact (aTun_ok hI.ok.1 _ _).2.1) hP (fun hc => by (try rw [e1] at hc); (try rw [e1]); exact (if_pos hc).symm)
theorem lw_c7 {p : Program} {l : Launch} {e : Env} {s : State} {m : MethodId} {below : List Frame} {meth : Method} {c : Code} {G : GG} {b : Nat} (C : Cx p l e room_1 s m #[Value.ref b] below meth c G cL_law 4 RL ret) {L : Nat} {xs : Nat → Int32} (hX : va_X b L xs s G.2.2) (hb0 : b < G.2.2.size) (hL8 : L ≤ 2048) {Q : State → Prop} {cells slots x o z : Nat} {K N : Nat → Nat} {I : MI} {R : MR} (hI : LI G x o z K N I R) {i : Nat} (hi : i + 4 ≤ L) (hr : cells + 160 ≤ room_1.cells ∧ slots + 2490 ≤ room_1.slots) (kk : ∀ (z9 : Nat) (K9 N9 : Nat → Nat) (I9 : MI) (R9 : MR), LI G x o z9 K9 N9 I9 R9 → Zq p l e room_1 s m #[Value.ref b] below meth c G 4 Q (cells + 160) (slots + 2490) z9 K9 N9 I9 R9 776 [(0, .ref b), (1, .ref x), (2, .ref o), (3, .int (zI (i : Int)))] []) : Zq p l e room_1 s m #[Value.ref b] below meth c G 4 Q cells slots z K N I R 335 [(0, .ref b), (1, .ref x), (2, .ref o), (3, .int (zI (i : Int)))] [] := by
  refine z_aload_n C dL_law_335 rfl ?_
  refine z_aload_n C dL_law_336 rfl ?_
  refine z_iload_n C dL_law_337 rfl ?_
  refine z_iconst C dL_law_338 ?_
  refine z_iadd C dL_law_339 ?_
  refine z_xld C hX hb0 hL8 dL_law_340 ⟨by omega, by omega⟩ ?_
  refine z_callV C (ci := 6) rfl (by decide) hI.2.2.1.1.1 (mX6_certify l G hI.2.2.1 hI.2.1 (zI_rng _)) (cwV 1 C.2.2.2.2.1 gvL_45 rfl rfl rfl hdL_X6_certify ⟨Nat.le_of_ble_eq_true rfl, Nat.le_of_ble_eq_true rfl⟩) rfl rfl (Nat.le_of_ble_eq_true rfl) dL_law_341 ⟨by omega, by omega⟩ ?_
  intro r z1 K1 N1 I1 R1 ⟨hr1, hP⟩
  subst hr1
  have hS := hI.sh hP.1
  have e0 : I1 o = I o := (hP.1.row hI.1 0 (by omega)).1
  have e1 := (hP.1.row hI.1 1 (by omega)).1
  have e2 := (hP.1.row hI.1 2 (by omega)).1
  have e3 := (hP.1.row hI.1 3 (by omega)).1
  have e4 := (hP.1.row hI.1 4 (by omega)).1
  have e5 := (hP.1.row hI.1 5 (by omega)).1
  have hO : Ok (I1 (o + 1)) := by rw [e1]; exact hI.ok.1
  have hR : 0 ≤ I1 o 2 ∧ I1 o 2 ≤ 6 := by rw [e0]; exact hI.ok.2.1
  refine z_aload_n C dL_law_344 rfl ?_
  refine z_aload_n C dL_law_345 rfl ?_
  refine z_iload_n C dL_law_346 rfl ?_
  refine z_iconst C dL_law_347 ?_
  refine z_iadd C dL_law_348 ?_
  refine z_xld C hX hb0 hL8 dL_law_349 ⟨by omega, by omega⟩ ?_
  refine z_callVd C (ci := 7) rfl (by decide) hS.1 (mX7_certify l G hS hO hR (zI_rng _)) (cwV 1 C.2.2.2.2.1 gvL_48 rfl rfl rfl hdL_X7_certify ⟨Nat.le_of_ble_eq_true rfl, Nat.le_of_ble_eq_true rfl⟩) rfl rfl (Nat.le_of_ble_eq_true rfl) dL_law_350 ⟨by omega, by omega⟩ ?_
  refine z_same C (tgt := 776) dL_law_353 (by decide) (by rw [e1]; first | done | rfl) ?_
  refine z_widen (by omega) (by omega) (kk _ _ _ _ _ ?_)
  have ho := hI.1
  refine hI.chg (by rw [e1]; exact (ceV_ok hI.ok.1 _).2.1) hP fun hc => ⟨fun b hb => ?_, ?_, ?_, fun j h1 h2 => ?_, ?_, ?_, ?_⟩
  · rw [va_up_n (by omega), tstM_r _ _ _ _ _ _ _ (by omega) (by omega) (by omega)]; unfold recM; rw [u2_row (by omega), va_up_n (by omega)]
  · rw [va_up_s]; rw [e1] at hc ⊢; exact (if_pos hc).symm
  · rw [va_up_n (by omega), tstM_r _ _ _ _ _ _ _ (by omega) (by omega) (by omega)]; unfold recM; rw [u2_row (by omega), va_up_s]
  · rw [va_up_n (by omega), tstM_r _ _ _ _ _ _ _ (by omega) (by omega) (by omega)]; unfold recM; rw [u2_row (by omega), va_up_n (by omega)]
  · rw [va_up_n (by omega), tstM_j _ _ _ _ _ _ _ (by omega) (by omega)]; unfold recM; rw [u2_s]
  · rw [va_up_n (by omega), tstM_j _ _ _ _ _ _ _ (by omega) (by omega)]; unfold recM; rw [u2_k (by omega), va_up_n (by omega)]
  · intro j h1 h2
    rw [va_up_n (by omega), tstM_j _ _ _ _ _ _ _ (by omega) (by omega)]; unfold recM
    rw [u2_k (by omega), va_up_n (by omega), e0]
    exact hI.2.2.2.2.1 j h1 h2
theorem lw_c8 {p : Program} {l : Launch} {e : Env} {s : State} {m : MethodId} {below : List Frame} {meth : Method} {c : Code} {G : GG} {b : Nat} (C : Cx p l e room_1 s m #[Value.ref b] below meth c G cL_law 4 RL ret) {L : Nat} {xs : Nat → Int32} (hX : va_X b L xs s G.2.2) (hb0 : b < G.2.2.size) (hL8 : L ≤ 2048) {Q : State → Prop} {cells slots x o z : Nat} {K N : Nat → Nat} {I : MI} {R : MR} (hI : LI G x o z K N I R) {i : Nat} (hi : i + 4 ≤ L) (hr : cells + 160 ≤ room_1.cells ∧ slots + 2490 ≤ room_1.slots) (kk : ∀ (z9 : Nat) (K9 N9 : Nat → Nat) (I9 : MI) (R9 : MR), LI G x o z9 K9 N9 I9 R9 → Zq p l e room_1 s m #[Value.ref b] below meth c G 4 Q (cells + 160) (slots + 2490) z9 K9 N9 I9 R9 776 [(0, .ref b), (1, .ref x), (2, .ref o), (3, .int (zI (i : Int)))] []) : Zq p l e room_1 s m #[Value.ref b] below meth c G 4 Q cells slots z K N I R 358 [(0, .ref b), (1, .ref x), (2, .ref o), (3, .int (zI (i : Int)))] [] := by
  refine z_aload_n C dL_law_358 rfl ?_
  refine z_aload_n C dL_law_359 rfl ?_
  refine z_iload_n C dL_law_360 rfl ?_
  refine z_iconst C dL_law_361 ?_
  refine z_iadd C dL_law_362 ?_
  refine z_xld C hX hb0 hL8 dL_law_363 ⟨by omega, by omega⟩ ?_
  refine z_aload_n C dL_law_364 rfl ?_
  refine z_iload_n C dL_law_365 rfl ?_
  refine z_iconst C dL_law_366 ?_
  refine z_iadd C dL_law_367 ?_
  refine z_xld C hX hb0 hL8 dL_law_368 ⟨by omega, by omega⟩ ?_
  refine z_callVd C (ci := 6) rfl (by decide) hI.2.2.1.1.1 (mX6_ofRing l G hI.2.2.1 hI.2.1 (zI_rng _) (zI_rng _)) (cwV 2 C.2.2.2.2.1 gvL_49 rfl rfl rfl hdL_X6_ofRing ⟨Nat.le_of_ble_eq_true rfl, Nat.le_of_ble_eq_true rfl⟩) rfl rfl (Nat.le_of_ble_eq_true rfl) dL_law_369 ⟨by omega, by omega⟩ ?_
  refine z_aload_n C dL_law_372 rfl ?_
  refine z_aload_n C dL_law_373 rfl ?_
  refine z_iload_n C dL_law_374 rfl ?_
  refine z_iconst C dL_law_375 ?_
  refine z_iadd C dL_law_376 ?_
  refine z_xld C hX hb0 hL8 dL_law_377 ⟨by omega, by omega⟩ ?_
  refine z_aload_n C dL_law_378 rfl ?_
  refine z_iload_n C dL_law_379 rfl ?_
  refine z_iconst C dL_law_380 ?_
  refine z_iadd C dL_law_381 ?_
  refine z_xld C hX hb0 hL8 dL_law_382 ⟨by omega, by omega⟩ ?_
  refine z_callVd C (ci := 7) rfl (by decide) hI.2.2.2.1.1 (mX7_ofRing l G hI.2.2.2.1 hI.ok.1 (zI_rng _) (zI_rng _)) (cwV 2 C.2.2.2.2.1 gvL_52 rfl rfl rfl hdL_X7_ofRing ⟨Nat.le_of_ble_eq_true rfl, Nat.le_of_ble_eq_true rfl⟩) rfl rfl (Nat.le_of_ble_eq_true rfl) dL_law_383 ⟨by omega, by omega⟩ ?_
  refine z_same C (tgt := 776) dL_law_386 (by decide) rfl ?_
  refine z_widen (by omega) (by omega) (kk _ _ _ _ _ ?_)
  split
  · exact hI.mem (fun b _ h6 _ => va_up_n h6) (by rw [va_up_n (by omega)]) (by rw [va_up_n (by omega)]) (by rw [va_up_n (by omega)]; exact hI.2.2.2.2.1)
  · exact hI
theorem lw_c9 {p : Program} {l : Launch} {e : Env} {s : State} {m : MethodId} {below : List Frame} {meth : Method} {c : Code} {G : GG} {b : Nat} (C : Cx p l e room_1 s m #[Value.ref b] below meth c G cL_law 4 RL ret) {L : Nat} {xs : Nat → Int32} (hX : va_X b L xs s G.2.2) (hb0 : b < G.2.2.size) (hL8 : L ≤ 2048) {Q : State → Prop} {cells slots x o z : Nat} {K N : Nat → Nat} {I : MI} {R : MR} (hI : LI G x o z K N I R) {i : Nat} (hi : i + 4 ≤ L) (hr : cells + 160 ≤ room_1.cells ∧ slots + 2490 ≤ room_1.slots) (kk : ∀ (z9 : Nat) (K9 N9 : Nat → Nat) (I9 : MI) (R9 : MR), LI G x o z9 K9 N9 I9 R9 → Zq p l e room_1 s m #[Value.ref b] below meth c G 4 Q (cells + 160) (slots + 2490) z9 K9 N9 I9 R9 776 [(0, .ref b), (1, .ref x), (2, .ref o), (3, .int (zI (i : Int)))] []) : Zq p l e room_1 s m #[Value.ref b] below meth c G 4 Q cells slots z K N I R 391 [(0, .ref b), (1, .ref x), (2, .ref o), (3, .int (zI (i : Int)))] [] := by
  refine z_aload_n C dL_law_391 rfl ?_
  refine z_aload_n C dL_law_392 rfl ?_
  refine z_iload_n C dL_law_393 rfl ?_
  refine z_iconst C dL_law_394 ?_
  refine z_iadd C dL_law_395 ?_
  refine z_xld C hX hb0 hL8 dL_law_396 ⟨by omega, by omega⟩ ?_
  refine z_aload_n C dL_law_397 rfl ?_
  refine z_iload_n C dL_law_398 rfl ?_
  refine z_iconst C dL_law_399 ?_
  refine z_iadd C dL_law_400 ?_
  refine z_xld C hX hb0 hL8 dL_law_401 ⟨by omega, by omega⟩ ?_
  refine z_callVd C (ci := 6) rfl (by decide) hI.2.2.1.1.1 (mX6_ofGauge l G hI.2.2.1 hI.2.1 (zI_rng _) (zI_rng _)) (cwV 2 C.2.2.2.2.1 gvL_53 rfl rfl rfl hdL_X6_ofGauge ⟨Nat.le_of_ble_eq_true rfl, Nat.le_of_ble_eq_true rfl⟩) rfl rfl (Nat.le_of_ble_eq_true rfl) dL_law_402 ⟨by omega, by omega⟩ ?_
  refine z_aload_n C dL_law_405 rfl ?_
  refine z_aload_n C dL_law_406 rfl ?_
  refine z_iload_n C dL_law_407 rfl ?_
  refine z_iconst C dL_law_408 ?_
  refine z_iadd C dL_law_409 ?_
  refine z_xld C hX hb0 hL8 dL_law_410 ⟨by omega, by omega⟩ ?_
  refine z_aload_n C dL_law_411 rfl ?_
  refine z_iload_n C dL_law_412 rfl ?_
  refine z_iconst C dL_law_413 ?_
  refine z_iadd C dL_law_414 ?_
  refine z_xld C hX hb0 hL8 dL_law_415 ⟨by omega, by omega⟩ ?_
  refine z_callVd C (ci := 7) rfl (by decide) hI.2.2.2.1.1 (mX7_ofGauge l G hI.2.2.2.1 hI.ok.1 (zI_rng _) (zI_rng _)) (cwV 2 C.2.2.2.2.1 gvL_56 rfl rfl rfl hdL_X7_ofGauge ⟨Nat.le_of_ble_eq_true rfl, Nat.le_of_ble_eq_true rfl⟩) rfl rfl (Nat.le_of_ble_eq_true rfl) dL_law_416 ⟨by omega, by omega⟩ ?_
  refine z_same C (tgt := 776) dL_law_419 (by decide) rfl ?_
  refine z_widen (by omega) (by omega) (kk _ _ _ _ _ ?_)
  exact hI
theorem lw_c10 {p : Program} {l : Launch} {e : Env} {s : State} {m : MethodId} {below : List Frame} {meth : Method} {c : Code} {G : GG} {b : Nat} (C : Cx p l e room_1 s m #[Value.ref b] below meth c G cL_law 4 RL ret) {L : Nat} {xs : Nat → Int32} (hX : va_X b L xs s G.2.2) (hb0 : b < G.2.2.size) (hL8 : L ≤ 2048) {Q : State → Prop} {cells slots x o z : Nat} {K N : Nat → Nat} {I : MI} {R : MR} (hI : LI G x o z K N I R) {i : Nat} (hi : i + 4 ≤ L) (hr : cells + 160 ≤ room_1.cells ∧ slots + 2490 ≤ room_1.slots) (kk : ∀ (z9 : Nat) (K9 N9 : Nat → Nat) (I9 : MI) (R9 : MR), LI G x o z9 K9 N9 I9 R9 → Zq p l e room_1 s m #[Value.ref b] below meth c G 4 Q (cells + 160) (slots + 2490) z9 K9 N9 I9 R9 776 [(0, .ref b), (1, .ref x), (2, .ref o), (3, .int (zI (i : Int)))] []) : Zq p l e room_1 s m #[Value.ref b] below meth c G 4 Q cells slots z K N I R 424 [(0, .ref b), (1, .ref x), (2, .ref o), (3, .int (zI (i : Int)))] [] := by
  refine z_aload_n C dL_law_424 rfl ?_
  refine z_aload_n C dL_law_425 rfl ?_
  refine z_iload_n C dL_law_426 rfl ?_
  refine z_iconst C dL_law_427 ?_
  refine z_iadd C dL_law_428 ?_
  refine z_xld C hX hb0 hL8 dL_law_429 ⟨by omega, by omega⟩ ?_
  refine z_aload_n C dL_law_430 rfl ?_
  refine z_iload_n C dL_law_431 rfl ?_
  refine z_iconst C dL_law_432 ?_
  refine z_iadd C dL_law_433 ?_
  refine z_xld C hX hb0 hL8 dL_law_434 ⟨by omega, by omega⟩ ?_
  refine z_callVd C (ci := 6) rfl (by decide) hI.2.2.1.1.1 (mX6_reading l G hI.2.2.1 hI.2.1 (zI_rng _) (zI_rng _)) (cwV 2 C.2.2.2.2.1 gvL_57 rfl rfl rfl hdL_X6_reading ⟨Nat.le_of_ble_eq_true rfl, Nat.le_of_ble_eq_true rfl⟩) rfl rfl (Nat.le_of_ble_eq_true rfl) dL_law_435 ⟨by omega, by omega⟩ ?_
  refine z_aload_n C dL_law_438 rfl ?_
  refine z_aload_n C dL_law_439 rfl ?_
  refine z_iload_n C dL_law_440 rfl ?_
  refine z_iconst C dL_law_441 ?_
  refine z_iadd C dL_law_442 ?_
  refine z_xld C hX hb0 hL8 dL_law_443 ⟨by omega, by omega⟩ ?_
  refine z_aload_n C dL_law_444 rfl ?_
  refine z_iload_n C dL_law_445 rfl ?_
  refine z_iconst C dL_law_446 ?_
  refine z_iadd C dL_law_447 ?_
  refine z_xld C hX hb0 hL8 dL_law_448 ⟨by omega, by omega⟩ ?_
  refine z_callVd C (ci := 7) rfl (by decide) hI.2.2.2.1.1 (mX7_reading l G hI.2.2.2.1 hI.ok.1 (zI_rng _) (zI_rng _)) (cwV 2 C.2.2.2.2.1 gvL_60 rfl rfl rfl hdL_X7_reading ⟨Nat.le_of_ble_eq_true rfl, Nat.le_of_ble_eq_true rfl⟩) rfl rfl (Nat.le_of_ble_eq_true rfl) dL_law_449 ⟨by omega, by omega⟩ ?_
  refine z_same C (tgt := 776) dL_law_452 (by decide) rfl ?_
  refine z_widen (by omega) (by omega) (kk _ _ _ _ _ ?_)
  exact hI
theorem lw_c11 {p : Program} {l : Launch} {e : Env} {s : State} {m : MethodId} {below : List Frame} {meth : Method} {c : Code} {G : GG} {b : Nat} (C : Cx p l e room_1 s m #[Value.ref b] below meth c G cL_law 4 RL ret) {L : Nat} {xs : Nat → Int32} (hX : va_X b L xs s G.2.2) (hb0 : b < G.2.2.size) (hL8 : L ≤ 2048) {Q : State → Prop} {cells slots x o z : Nat} {K N : Nat → Nat} {I : MI} {R : MR} (hI : LI G x o z K N I R) {i : Nat} (hi : i + 4 ≤ L) (hr : cells + 160 ≤ room_1.cells ∧ slots + 2490 ≤ room_1.slots) (kk : ∀ (z9 : Nat) (K9 N9 : Nat → Nat) (I9 : MI) (R9 : MR), LI G x o z9 K9 N9 I9 R9 → Zq p l e room_1 s m #[Value.ref b] below meth c G 4 Q (cells + 160) (slots + 2490) z9 K9 N9 I9 R9 776 [(0, .ref b), (1, .ref x), (2, .ref o), (3, .int (zI (i : Int)))] []) : Zq p l e room_1 s m #[Value.ref b] below meth c G 4 Q cells slots z K N I R 457 [(0, .ref b), (1, .ref x), (2, .ref o), (3, .int (zI (i : Int)))] [] := by
  refine z_aload_n C dL_law_457 rfl ?_
  refine z_aload_n C dL_law_458 rfl ?_
  refine z_iload_n C dL_law_459 rfl ?_
  refine z_iconst C dL_law_460 ?_
  refine z_iadd C dL_law_461 ?_
  refine z_xld C hX hb0 hL8 dL_law_462 ⟨by omega, by omega⟩ ?_
  refine z_callVd C (ci := 6) rfl (by decide) hI.2.2.1.1.1 (mX6_count l G hI.2.2.1 hI.2.1 (zI_rng _)) (cwV 1 C.2.2.2.2.1 gvL_61 rfl rfl rfl hdL_X6_count ⟨Nat.le_of_ble_eq_true rfl, Nat.le_of_ble_eq_true rfl⟩) rfl rfl (Nat.le_of_ble_eq_true rfl) dL_law_463 ⟨by omega, by omega⟩ ?_
  refine z_aload_n C dL_law_466 rfl ?_
  refine z_aload_n C dL_law_467 rfl ?_
  refine z_iload_n C dL_law_468 rfl ?_
  refine z_iconst C dL_law_469 ?_
  refine z_iadd C dL_law_470 ?_
  refine z_xld C hX hb0 hL8 dL_law_471 ⟨by omega, by omega⟩ ?_
  refine z_callVd C (ci := 7) rfl (by decide) hI.2.2.2.1.1 (mX7_count l G hI.2.2.2.1 hI.ok.1 (zI_rng _)) (cwV 1 C.2.2.2.2.1 gvL_64 rfl rfl rfl hdL_X7_count ⟨Nat.le_of_ble_eq_true rfl, Nat.le_of_ble_eq_true rfl⟩) rfl rfl (Nat.le_of_ble_eq_true rfl) dL_law_472 ⟨by omega, by omega⟩ ?_
  refine z_same C (tgt := 776) dL_law_475 (by decide) rfl ?_
  refine z_widen (by omega) (by omega) (kk _ _ _ _ _ ?_)
  exact hI
theorem lw_c12 {p : Program} {l : Launch} {e : Env} {s : State} {m : MethodId} {below : List Frame} {meth : Method} {c : Code} {G : GG} {b : Nat} (C : Cx p l e room_1 s m #[Value.ref b] below meth c G cL_law 4 RL ret) {L : Nat} {xs : Nat → Int32} (hX : va_X b L xs s G.2.2) (hb0 : b < G.2.2.size) (hL8 : L ≤ 2048) {Q : State → Prop} {cells slots x o z : Nat} {K N : Nat → Nat} {I : MI} {R : MR} (hI : LI G x o z K N I R) {i : Nat} (hi : i + 4 ≤ L) (hr : cells + 160 ≤ room_1.cells ∧ slots + 2490 ≤ room_1.slots) (kk : ∀ (z9 : Nat) (K9 N9 : Nat → Nat) (I9 : MI) (R9 : MR), LI G x o z9 K9 N9 I9 R9 → Zq p l e room_1 s m #[Value.ref b] below meth c G 4 Q (cells + 160) (slots + 2490) z9 K9 N9 I9 R9 776 [(0, .ref b), (1, .ref x), (2, .ref o), (3, .int (zI (i : Int)))] []) : Zq p l e room_1 s m #[Value.ref b] below meth c G 4 Q cells slots z K N I R 480 [(0, .ref b), (1, .ref x), (2, .ref o), (3, .int (zI (i : Int)))] [] := by
  refine z_aload_n C dL_law_480 rfl ?_
  refine z_aload_n C dL_law_481 rfl ?_
  refine z_iload_n C dL_law_482 rfl ?_
  refine z_iconst C dL_law_483 ?_
  refine z_iadd C dL_law_484 ?_
  refine z_xld C hX hb0 hL8 dL_law_485 ⟨by omega, by omega⟩ ?_
  refine z_callVd C (ci := 6) rfl (by decide) hI.2.2.1.1.1 (mX6_pressure l G hI.2.2.1 hI.2.1 (zI_rng _)) (cwV 1 C.2.2.2.2.1 gvL_65 rfl rfl rfl hdL_X6_pressure ⟨Nat.le_of_ble_eq_true rfl, Nat.le_of_ble_eq_true rfl⟩) rfl rfl (Nat.le_of_ble_eq_true rfl) dL_law_486 ⟨by omega, by omega⟩ ?_
  refine z_aload_n C dL_law_489 rfl ?_
  refine z_aload_n C dL_law_490 rfl ?_
  refine z_iload_n C dL_law_491 rfl ?_
  refine z_iconst C dL_law_492 ?_
  refine z_iadd C dL_law_493 ?_
  refine z_xld C hX hb0 hL8 dL_law_494 ⟨by omega, by omega⟩ ?_
  refine z_callVd C (ci := 7) rfl (by decide) hI.2.2.2.1.1 (mX7_pressure l G hI.2.2.2.1 hI.ok.1 (zI_rng _)) (cwV 1 C.2.2.2.2.1 gvL_68 rfl rfl rfl hdL_X7_pressure ⟨Nat.le_of_ble_eq_true rfl, Nat.le_of_ble_eq_true rfl⟩) rfl rfl (Nat.le_of_ble_eq_true rfl) dL_law_495 ⟨by omega, by omega⟩ ?_
  refine z_same C (tgt := 776) dL_law_498 (by decide) rfl ?_
  refine z_widen (by omega) (by omega) (kk _ _ _ _ _ ?_)
  exact hI
theorem lw_c13 {p : Program} {l : Launch} {e : Env} {s : State} {m : MethodId} {below : List Frame} {meth : Method} {c : Code} {G : GG} {b : Nat} (C : Cx p l e room_1 s m #[Value.ref b] below meth c G cL_law 4 RL ret) {L : Nat} {xs : Nat → Int32} (hX : va_X b L xs s G.2.2) (hb0 : b < G.2.2.size) (hL8 : L ≤ 2048) {Q : State → Prop} {cells slots x o z : Nat} {K N : Nat → Nat} {I : MI} {R : MR} (hI : LI G x o z K N I R) {i : Nat} (hi : i + 4 ≤ L) (hr : cells + 160 ≤ room_1.cells ∧ slots + 2490 ≤ room_1.slots) (kk : ∀ (z9 : Nat) (K9 N9 : Nat → Nat) (I9 : MI) (R9 : MR), LI G x o z9 K9 N9 I9 R9 → Zq p l e room_1 s m #[Value.ref b] below meth c G 4 Q (cells + 160) (slots + 2490) z9 K9 N9 I9 R9 776 [(0, .ref b), (1, .ref x), (2, .ref o), (3, .int (zI (i : Int)))] []) : Zq p l e room_1 s m #[Value.ref b] below meth c G 4 Q cells slots z K N I R 503 [(0, .ref b), (1, .ref x), (2, .ref o), (3, .int (zI (i : Int)))] [] := by
  refine z_aload_n C dL_law_503 rfl ?_
  refine z_aload_n C dL_law_504 rfl ?_
  refine z_iload_n C dL_law_505 rfl ?_
  refine z_iconst C dL_law_506 ?_
  refine z_iadd C dL_law_507 ?_
  refine z_xld C hX hb0 hL8 dL_law_508 ⟨by omega, by omega⟩ ?_
  refine z_aload_n C dL_law_509 rfl ?_
  refine z_iload_n C dL_law_510 rfl ?_
  refine z_iconst C dL_law_511 ?_
  refine z_iadd C dL_law_512 ?_
  refine z_xld C hX hb0 hL8 dL_law_513 ⟨by omega, by omega⟩ ?_
  refine z_callVd C (ci := 6) rfl (by decide) hI.2.2.1.1.1 (mX6_nearest l G hI.2.2.1 hI.2.1 (zI_rng _) (zI_rng _)) (cwV 2 C.2.2.2.2.1 gvL_69 rfl rfl rfl hdL_X6_nearest ⟨Nat.le_of_ble_eq_true rfl, Nat.le_of_ble_eq_true rfl⟩) rfl rfl (Nat.le_of_ble_eq_true rfl) dL_law_514 ⟨by omega, by omega⟩ ?_
  refine z_aload_n C dL_law_517 rfl ?_
  refine z_aload_n C dL_law_518 rfl ?_
  refine z_iload_n C dL_law_519 rfl ?_
  refine z_iconst C dL_law_520 ?_
  refine z_iadd C dL_law_521 ?_
  refine z_xld C hX hb0 hL8 dL_law_522 ⟨by omega, by omega⟩ ?_
  refine z_aload_n C dL_law_523 rfl ?_
  refine z_iload_n C dL_law_524 rfl ?_
  refine z_iconst C dL_law_525 ?_
  refine z_iadd C dL_law_526 ?_
  refine z_xld C hX hb0 hL8 dL_law_527 ⟨by omega, by omega⟩ ?_
  refine z_callVd C (ci := 7) rfl (by decide) hI.2.2.2.1.1 (mX7_nearest l G hI.2.2.2.1 hI.ok.1 (zI_rng _) (zI_rng _)) (cwV 2 C.2.2.2.2.1 gvL_72 rfl rfl rfl hdL_X7_nearest ⟨Nat.le_of_ble_eq_true rfl, Nat.le_of_ble_eq_true rfl⟩) rfl rfl (Nat.le_of_ble_eq_true rfl) dL_law_528 ⟨by omega, by omega⟩ ?_
  refine z_same C (tgt := 776) dL_law_531 (by decide) rfl ?_
  refine z_widen (by omega) (by omega) (kk _ _ _ _ _ ?_)
  exact hI
theorem lw_c14 {p : Program} {l : Launch} {e : Env} {s : State} {m : MethodId} {below : List Frame} {meth : Method} {c : Code} {G : GG} {b : Nat} (C : Cx p l e room_1 s m #[Value.ref b] below meth c G cL_law 4 RL ret) {L : Nat} {xs : Nat → Int32} (hX : va_X b L xs s G.2.2) (hb0 : b < G.2.2.size) (hL8 : L ≤ 2048) {Q : State → Prop} {cells slots x o z : Nat} {K N : Nat → Nat} {I : MI} {R : MR} (hI : LI G x o z K N I R) {i : Nat} (hi : i + 4 ≤ L) (hr : cells + 160 ≤ room_1.cells ∧ slots + 2490 ≤ room_1.slots) (kk : ∀ (z9 : Nat) (K9 N9 : Nat → Nat) (I9 : MI) (R9 : MR), LI G x o z9 K9 N9 I9 R9 → Zq p l e room_1 s m #[Value.ref b] below meth c G 4 Q (cells + 160) (slots + 2490) z9 K9 N9 I9 R9 776 [(0, .ref b), (1, .ref x), (2, .ref o), (3, .int (zI (i : Int)))] []) : Zq p l e room_1 s m #[Value.ref b] below meth c G 4 Q cells slots z K N I R 536 [(0, .ref b), (1, .ref x), (2, .ref o), (3, .int (zI (i : Int)))] [] := by
  refine z_aload_n C dL_law_536 rfl ?_
  refine z_aload_n C dL_law_537 rfl ?_
  refine z_iload_n C dL_law_538 rfl ?_
  refine z_iconst C dL_law_539 ?_
  refine z_iadd C dL_law_540 ?_
  refine z_xld C hX hb0 hL8 dL_law_541 ⟨by omega, by omega⟩ ?_
  refine z_aload_n C dL_law_542 rfl ?_
  refine z_iload_n C dL_law_543 rfl ?_
  refine z_iconst C dL_law_544 ?_
  refine z_iadd C dL_law_545 ?_
  refine z_xld C hX hb0 hL8 dL_law_546 ⟨by omega, by omega⟩ ?_
  refine z_callV C (ci := 6) rfl (by decide) hI.2.2.1.1.1 (mX6_test l G hI.2.2.1 hI.2.1 (zI_rng _) (zI_rng _)) (cwV 2 C.2.2.2.2.1 gvL_73 rfl rfl rfl hdL_X6_test ⟨Nat.le_of_ble_eq_true rfl, Nat.le_of_ble_eq_true rfl⟩) rfl rfl (Nat.le_of_ble_eq_true rfl) dL_law_547 ⟨by omega, by omega⟩ ?_
  intro r z1 K1 N1 I1 R1 ⟨hr1, hP⟩
  subst hr1
  have hS := hI.sh hP.1
  have e0 : I1 o = I o := (hP.1.row hI.1 0 (by omega)).1
  have e1 := (hP.1.row hI.1 1 (by omega)).1
  have e2 := (hP.1.row hI.1 2 (by omega)).1
  have e3 := (hP.1.row hI.1 3 (by omega)).1
  have e4 := (hP.1.row hI.1 4 (by omega)).1
  have e5 := (hP.1.row hI.1 5 (by omega)).1
  have hO : Ok (I1 (o + 1)) := by rw [e1]; exact hI.ok.1
  have hR : 0 ≤ I1 o 2 ∧ I1 o 2 ≤ 6 := by rw [e0]; exact hI.ok.2.1
  refine z_aload_n C dL_law_550 rfl ?_
  refine z_aload_n C dL_law_551 rfl ?_
  refine z_iload_n C dL_law_552 rfl ?_
  refine z_iconst C dL_law_553 ?_
  refine z_iadd C dL_law_554 ?_
  refine z_xld C hX hb0 hL8 dL_law_555 ⟨by omega, by omega⟩ ?_
  refine z_aload_n C dL_law_556 rfl ?_
  refine z_iload_n C dL_law_557 rfl ?_
  refine z_iconst C dL_law_558 ?_
  refine z_iadd C dL_law_559 ?_
  refine z_xld C hX hb0 hL8 dL_law_560 ⟨by omega, by omega⟩ ?_
  refine z_callVd C (ci := 7) rfl (by decide) hS.1 (mX7_test l G hS hO (zI_rng _) (zI_rng _)) (cwV 2 C.2.2.2.2.1 gvL_76 rfl rfl rfl hdL_X7_test ⟨Nat.le_of_ble_eq_true rfl, Nat.le_of_ble_eq_true rfl⟩) rfl rfl (Nat.le_of_ble_eq_true rfl) dL_law_561 ⟨by omega, by omega⟩ ?_
  refine z_same C (tgt := 776) dL_law_564 (by decide) (by rw [e1]; first | done | rfl) ?_
  refine z_widen (by omega) (by omega) (kk _ _ _ _ _ ?_)
  have hN := hI.fr hP
  split
  · exact hN.tst _ _ _ _
  · exact hN
theorem lw_c15 {p : Program} {l : Launch} {e : Env} {s : State} {m : MethodId} {below : List Frame} {meth : Method} {c : Code} {G : GG} {b : Nat} (C : Cx p l e room_1 s m #[Value.ref b] below meth c G cL_law 4 RL ret) {L : Nat} {xs : Nat → Int32} (hX : va_X b L xs s G.2.2) (hb0 : b < G.2.2.size) (hL8 : L ≤ 2048) {Q : State → Prop} {cells slots x o z : Nat} {K N : Nat → Nat} {I : MI} {R : MR} (hI : LI G x o z K N I R) {i : Nat} (hi : i + 4 ≤ L) (hr : cells + 160 ≤ room_1.cells ∧ slots + 2490 ≤ room_1.slots) (kk : ∀ (z9 : Nat) (K9 N9 : Nat → Nat) (I9 : MI) (R9 : MR), LI G x o z9 K9 N9 I9 R9 → Zq p l e room_1 s m #[Value.ref b] below meth c G 4 Q (cells + 160) (slots + 2490) z9 K9 N9 I9 R9 776 [(0, .ref b), (1, .ref x), (2, .ref o), (3, .int (zI (i : Int)))] []) : Zq p l e room_1 s m #[Value.ref b] below meth c G 4 Q cells slots z K N I R 569 [(0, .ref b), (1, .ref x), (2, .ref o), (3, .int (zI (i : Int)))] [] := by
  refine z_aload_n C dL_law_569 rfl ?_
  refine z_aload_n C dL_law_570 rfl ?_
  refine z_iload_n C dL_law_571 rfl ?_
  refine z_iconst C dL_law_572 ?_
  refine z_iadd C dL_law_573 ?_
  refine z_xld C hX hb0 hL8 dL_law_574 ⟨by omega, by omega⟩ ?_
  refine z_aload_n C dL_law_575 rfl ?_
  refine z_iload_n C dL_law_576 rfl ?_
  refine z_iconst C dL_law_577 ?_
  refine z_iadd C dL_law_578 ?_
  refine z_xld C hX hb0 hL8 dL_law_579 ⟨by omega, by omega⟩ ?_
  refine z_callV C (ci := 6) rfl (by decide) hI.2.2.1.1.1 (mX6_bestError l G hI.2.2.1 hI.2.1 (zI_rng _) (zI_rng _)) (cwV 2 C.2.2.2.2.1 gvL_77 rfl rfl rfl hdL_X6_bestError ⟨Nat.le_of_ble_eq_true rfl, Nat.le_of_ble_eq_true rfl⟩) rfl rfl (Nat.le_of_ble_eq_true rfl) dL_law_580 ⟨by omega, by omega⟩ ?_
  intro r z1 K1 N1 I1 R1 ⟨hr1, hP⟩
  subst hr1
  have hS := hI.sh hP.1
  have e0 : I1 o = I o := (hP.1.row hI.1 0 (by omega)).1
  have e1 := (hP.1.row hI.1 1 (by omega)).1
  have e2 := (hP.1.row hI.1 2 (by omega)).1
  have e3 := (hP.1.row hI.1 3 (by omega)).1
  have e4 := (hP.1.row hI.1 4 (by omega)).1
  have e5 := (hP.1.row hI.1 5 (by omega)).1
  have hO : Ok (I1 (o + 1)) := by rw [e1]; exact hI.ok.1
  have hR : 0 ≤ I1 o 2 ∧ I1 o 2 ≤ 6 := by rw [e0]; exact hI.ok.2.1
  refine z_aload_n C dL_law_583 rfl ?_
  refine z_aload_n C dL_law_584 rfl ?_
  refine z_iload_n C dL_law_585 rfl ?_
  refine z_iconst C dL_law_586 ?_
  refine z_iadd C dL_law_587 ?_
  refine z_xld C hX hb0 hL8 dL_law_588 ⟨by omega, by omega⟩ ?_
  refine z_aload_n C dL_law_589 rfl ?_
  refine z_iload_n C dL_law_590 rfl ?_
  refine z_iconst C dL_law_591 ?_
  refine z_iadd C dL_law_592 ?_
  refine z_xld C hX hb0 hL8 dL_law_593 ⟨by omega, by omega⟩ ?_
  refine z_callVd C (ci := 7) rfl (by decide) hS.1 (mX7_bestError l G hS hO (zI_rng _) (zI_rng _)) (cwV 2 C.2.2.2.2.1 gvL_80 rfl rfl rfl hdL_X7_bestError ⟨Nat.le_of_ble_eq_true rfl, Nat.le_of_ble_eq_true rfl⟩) rfl rfl (Nat.le_of_ble_eq_true rfl) dL_law_594 ⟨by omega, by omega⟩ ?_
  refine z_same C (tgt := 776) dL_law_597 (by decide) (by rw [e1]; first | done | rfl) ?_
  refine z_widen (by omega) (by omega) (kk _ _ _ _ _ ?_)
  have hN := hI.fr hP
  split
  · unfold bestM
    rw [if_neg (by omega)]
    exact hN.tst _ _ _ _
  · exact hN
theorem lw_c16 {p : Program} {l : Launch} {e : Env} {s : State} {m : MethodId} {below : List Frame} {meth : Method} {c : Code} {G : GG} {b : Nat} (C : Cx p l e room_1 s m #[Value.ref b] below meth c G cL_law 4 RL ret) {L : Nat} {xs : Nat → Int32} (hX : va_X b L xs s G.2.2) (hb0 : b < G.2.2.size) (hL8 : L ≤ 2048) {Q : State → Prop} {cells slots x o z : Nat} {K N : Nat → Nat} {I : MI} {R : MR} (hI : LI G x o z K N I R) {i : Nat} (hi : i + 4 ≤ L) (hr : cells + 160 ≤ room_1.cells ∧ slots + 2490 ≤ room_1.slots) (kk : ∀ (z9 : Nat) (K9 N9 : Nat → Nat) (I9 : MI) (R9 : MR), LI G x o z9 K9 N9 I9 R9 → Zq p l e room_1 s m #[Value.ref b] below meth c G 4 Q (cells + 160) (slots + 2490) z9 K9 N9 I9 R9 776 [(0, .ref b), (1, .ref x), (2, .ref o), (3, .int (zI (i : Int)))] []) : Zq p l e room_1 s m #[Value.ref b] below meth c G 4 Q cells slots z K N I R 602 [(0, .ref b), (1, .ref x), (2, .ref o), (3, .int (zI (i : Int)))] [] := by
  refine z_aload_n C dL_law_602 rfl ?_
  refine z_aload_n C dL_law_603 rfl ?_
  refine z_iload_n C dL_law_604 rfl ?_
  refine z_iconst C dL_law_605 ?_
  refine z_iadd C dL_law_606 ?_
  refine z_xld C hX hb0 hL8 dL_law_607 ⟨by omega, by omega⟩ ?_
  refine z_callVd C (ci := 6) rfl (by decide) hI.2.2.1.1.1 (mX6_airCosts l G hI.2.2.1 hI.2.1 (zI_rng _)) (cwV 1 C.2.2.2.2.1 gvL_81 rfl rfl rfl hdL_X6_airCosts ⟨Nat.le_of_ble_eq_true rfl, Nat.le_of_ble_eq_true rfl⟩) rfl rfl (Nat.le_of_ble_eq_true rfl) dL_law_608 ⟨by omega, by omega⟩ ?_
  refine z_aload_n C dL_law_611 rfl ?_
  refine z_aload_n C dL_law_612 rfl ?_
  refine z_iload_n C dL_law_613 rfl ?_
  refine z_iconst C dL_law_614 ?_
  refine z_iadd C dL_law_615 ?_
  refine z_xld C hX hb0 hL8 dL_law_616 ⟨by omega, by omega⟩ ?_
  refine z_callVd C (ci := 7) rfl (by decide) hI.2.2.2.1.1 (mX7_airCosts l G hI.2.2.2.1 hI.ok.1 (zI_rng _)) (cwV 1 C.2.2.2.2.1 gvL_84 rfl rfl rfl hdL_X7_airCosts ⟨Nat.le_of_ble_eq_true rfl, Nat.le_of_ble_eq_true rfl⟩) rfl rfl (Nat.le_of_ble_eq_true rfl) dL_law_617 ⟨by omega, by omega⟩ ?_
  refine z_same C (tgt := 776) dL_law_620 (by decide) rfl ?_
  refine z_widen (by omega) (by omega) (kk _ _ _ _ _ ?_)
  exact hI
