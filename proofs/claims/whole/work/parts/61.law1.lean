/-! THE CLAIM OUT OF ONE WALK OF THE LAW'S BODY. Your part is whole_start (and what it stands on); all else here is the same for every law, but numbers. -/
def R_law : String := "GaugeColumnsLaw"
def lw_P (b : Addr) (xs : List Int32) (args : Array Value) (s : State) : Prop := args = #[.ref b] ∧ s.IntsAt b xs ∧ xs.length ≤ 2048 ∧ (Jvm.Cond.and given_1 narrow_1).before args s = true
def lw_Q (_ : Array Value) (s : State) (o : Outcome) (t : State) : Prop := o = .returned (some (.int 1)) ∧ Framed s o t [] room_1.cells room_1.slots
def lw_Z (below : List Frame) (a : Array Value) (s : State) : State → Prop := fun t => ∃ o, t.status = .running ∧ Ended t below o ∧ lw_Q a s o t
/-- the law's own end, with 1 on the stack, nothing written that was there before, its room as the claim has it -/
theorem lw_ret {p : Program} {l : Launch} {e : Env} {s : State} {m : MethodId} {below : List Frame} {meth : Method} {c : Code} {b : Nat} (hx : p.tables.exec = Jvm.exec) (hb : c.code = code) (hr : meth.sig.returnType = ret) (hlocks : meth.locks = false) {pc : Nat} {H : Heap} {ls : Array Slot} (hdg : decode code pc = .ok (.ireturn, 1)) : W p l e room_1 s m #[Value.ref b] below meth c H [] room_1.cells room_1.slots (lw_Z below #[Value.ref b] s) (F0 m pc ls [.int 1]) := by
  intro T hT X
  obtain ⟨fs, hret, hrun, hended, hW, hframe⟩ := X.leave (v := some (.int 1)) (hlocks := hlocks) (fun h => by rw [hr] at h; cases h)
  have hmeth' : T.vm.method? m = some meth := X.method'
  refine ⟨T.setFrames fs, ?_, .returned (some (.int 1)), hrun, hended, rfl, ⟨_, rfl⟩, hW, hframe⟩
  jvm_step X.here [X.here.top, hx, hb, hdg, hmeth', hr, ret, narrow_b1]
  (try refine ⟨rfl, ?_⟩); (try refine ⟨rfl, ?_⟩)
  first | (intro acts; rw [hret _ acts rfl rfl rfl]) | rw [hret _ _ rfl rfl rfl]
  exact Steps.refl _
/-- what holds at the law's entry: the machine, the code, the tables' words (any of lw_tbl by 'hts w (by decide +kernel)'), the script of L ints xs at the cell b, what the Statement gives of the start (any of its parts by flat_of_before) -/
def lw_At (p : Program) (s : State) (m : MethodId) (meth : Method) (c : Code) (b L : Nat) (xs : Nat → Int32) : Prop :=
  p.tables.exec = Jvm.exec ∧ c.code = code ∧ meth.sig.returnType = ret ∧ c.maxLocals = 4 ∧ s.vm.findClass R_law = some m.cls ∧ (∀ w ∈ lw_tbl, w.before #[Value.ref b] s = true) ∧ va_X b L xs s s.heap ∧ b < s.heap.size ∧ meth.locks = false ∧ (Jvm.Cond.and given_1 narrow_1).before #[Value.ref b] s = true
section ZL
variable {p : Program} {l : Launch} {e : Env} {Rm : Room} {s : State} {m : MethodId} {args : Array Value} {below : List Frame} {meth : Method} {c : Code} {G : GG} {cc : ByteArray} {nL : Nat} {own : String} {rt9 : Option FieldType}
variable {Q : State → Prop} {cells slots z : Nat} {K N : Nat → Nat} {I : MI} {R : MR} {pc : Nat} {lv : List (Nat × Value)} {st : List Value}
theorem z_i2l (C : Cx p l e Rm s m args below meth c G cc nL own rt9) {x : Int32} (d : decode cc pc = .ok (.i2l, 1)) (k : Zq p l e Rm s m args below meth c G nL Q cells slots z K N I R (pc + 1) lv (.long x.toInt64 :: st)) : Zq p l e Rm s m args below meth c G nL Q cells slots z K N I R pc lv (.int x :: st) := fun H locs ls hW hL hl hd => lv_i2l C.1 C.2.1 d rfl (k H locs ls hW hL hl hd)
theorem z_lshl (C : Cx p l e Rm s m args below meth c G cc nL own rt9) {x : Int64} {y : Int32} (d : decode cc pc = .ok (.lshl, 1)) (k : Zq p l e Rm s m args below meth c G nL Q cells slots z K N I R (pc + 1) lv (.long (x <<< (y.toInt64 &&& 63)) :: st)) : Zq p l e Rm s m args below meth c G nL Q cells slots z K N I R pc lv (.int y :: .long x :: st) := fun H locs ls hW hL hl hd => lv_lshl C.1 C.2.1 d rfl (k H locs ls hW hL hl hd)
theorem z_landr (C : Cx p l e Rm s m args below meth c G cc nL own rt9) {x y : Int64} (d : decode cc pc = .ok (.land, 1)) (k : Zq p l e Rm s m args below meth c G nL Q cells slots z K N I R (pc + 1) lv (.long (x &&& y) :: st)) : Zq p l e Rm s m args below meth c G nL Q cells slots z K N I R pc lv (.long y :: .long x :: st) := fun H locs ls hW hL hl hd => lv_land C.1 C.2.1 d (k H locs ls hW hL hl hd)
theorem z_lorr (C : Cx p l e Rm s m args below meth c G cc nL own rt9) {x y : Int64} (d : decode cc pc = .ok (.lor, 1)) (k : Zq p l e Rm s m args below meth c G nL Q cells slots z K N I R (pc + 1) lv (.long (x ||| y) :: st)) : Zq p l e Rm s m args below meth c G nL Q cells slots z K N I R pc lv (.long y :: .long x :: st) := fun H locs ls hW hL hl hd => lv_lor C.1 C.2.1 d (k H locs ls hW hL hl hd)
theorem z_longU {x : Int64} (k : Zq p l e Rm s m args below meth c G nL Q cells slots z K N I R pc lv (.long (zU x.toUInt64.toNat) :: st)) : Zq p l e Rm s m args below meth c G nL Q cells slots z K N I R pc lv (.long x :: st) := by rw [zU_of] at k; exact k
theorem z_xlen (C : Cx p l e Rm s m args below meth c G cc nL own rt9) {b L : Nat} {xs : Nat → Int32} (hX : va_X b L xs s G.2.2) (hb : b < G.2.2.size) (d : decode cc pc = .ok (.arraylength, 1)) (k : Zq p l e Rm s m args below meth c G nL Q cells slots z K N I R (pc + 1) lv (.int (zI (L : Int)) :: st)) : Zq p l e Rm s m args below meth c G nL Q cells slots z K N I R pc lv (.ref b :: st) := by
  obtain ⟨scr, hcb, hof, hkn, hsz, hval⟩ := hX
  exact fun H locs ls hW hL hl hd => W.alen C.1 C.2.1 (by rw [hW.2.2.1 b hb]; exact hcb) hof (by rw [hsz]; rfl) rfl rfl d (k H locs ls hW hL hl hd)
theorem z_xld (C : Cx p l e Rm s m args below meth c G cc nL own rt9) {b L : Nat} {xs : Nat → Int32} (hX : va_X b L xs s G.2.2) (hb : b < G.2.2.size) (hL31 : L ≤ 2048) (d : decode cc pc = .ok (.iaload, 1)) {j : Int} (hj : 0 ≤ j ∧ j < L) (k : Zq p l e Rm s m args below meth c G nL Q cells slots z K N I R (pc + 1) lv (.int (zI (xs j.toNat).toInt) :: st)) : Zq p l e Rm s m args below meth c G nL Q cells slots z K N I R pc lv (.int (zI j) :: .ref b :: st) := by
  obtain ⟨scr, hcb, hof, hkn, hsz, hval⟩ := hX
  obtain ⟨h1, h2⟩ := zI_idx (n := L) hj.1 hj.2 (by omega)
  exact fun H locs ls hW hL hl hd => W.iald C.1 C.2.1 (by rw [hW.2.2.1 b hb]; exact hcb) hof hkn (by rw [hsz]; exact h1) (by rw [h2, zI_of]; exact hval _ (by omega)) rfl rfl d (k H locs ls hW hL hl hd)
theorem z_same (C : Cx p l e Rm s m args below meth c G cc nL own rt9) {a b : Int} {off : Int} {tgt : Nat} (d : decode cc pc = .ok (.if_icmp .eq off, 3)) (ht : (pc : Int) + off = (tgt : Int)) (hab : b = a) (k : Zq p l e Rm s m args below meth c G nL Q cells slots z K N I R tgt lv st) : Zq p l e Rm s m args below meth c G nL Q cells slots z K N I R pc lv (.int (zI b) :: .int (zI a) :: st) := fun H locs ls hW hL hl hd =>
  lv_icmp_eq C.1 C.2.1 d ht (fun _ => k H locs ls hW hL hl hd) (fun q => absurd (by rw [hab]) q)
end ZL
theorem CI.mdl {G : GG} {x z : Nat} {K N : Nat → Nat} {I : MI} {R : MR} {f h s v P : Nat → Int} {n len : Int} (c : CI G x z K N I R f h s v P n len) {J : MI} (hJ : ∀ a : Nat, (a < x + 92 ∨ x + 100 ≤ a) → J a = I a) : CI G x z K N J R f h s v P n len := by
  have hzx := c.zx
  obtain ⟨a0, b0, c0, ⟨d0, d1, d2, d3⟩, ⟨e0, e1⟩, g0, g1, g2⟩ := c
  have ck : CK (x + 100) z K N I R z K N J R := CK.lo (Nat.le_refl z) (fun _ _ => ⟨rfl, rfl⟩) fun a h1 h2 => ⟨hJ a (by omega), rfl⟩
  have e11 := hJ (x + 11) (by omega)
  have i91 := hJ (x + 91) (by omega)
  have i89 := hJ (x + 89) (by omega)
  refine ⟨a0, b0, c0.keep ck fun a h1 h2 => ⟨hJ a (by omega), rfl⟩, ⟨by rw [e11]; exact d0, by rw [e11]; exact d1, d2, fun j hj => ?_⟩, ⟨fun k hk => ?_, e1⟩, by rw [i91]; exact g0, by rw [i89]; exact g1, by rw [i91]; exact g2⟩
  · rw [e11]
    have hh := hiA_in x (I (x + 11) 1) n j
    exact (d3 j hj).keep ck fun a h1 h2 => ⟨hJ a (by omega), rfl⟩
  · rcases e0 k hk with w | ⟨sl, w1, w2, w3, w4⟩
    · exact Or.inl w
    · exact Or.inr ⟨sl, w1, w2, w3, w4.keep ck fun a h1 h2 => ⟨hJ a (by omega), rfl⟩⟩
/-- what the law keeps: the class and the model hold the same -/
def LI (G : GG) (x o z : Nat) (K N : Nat → Nat) (I : MI) (R : MR) : Prop :=
  o = x + 92 ∧ x + 100 ≤ z ∧ CI G x z K N I R (I (o + 1)) (I (o + 2)) (I (o + 3)) (I (o + 4)) (I (o + 5)) (I o 2) (I o 6) ∧ ShM G z K N R o ∧ FOk (I o) ∧ ∀ k : Nat, k < 2 → I (o + 4) k = 0 ∨ I (o + 4) k = 1
theorem LI.mk {G : GG} {x o z : Nat} {K N : Nat → Nat} {I J : MI} {R : MR} {f h s v P : Nat → Int} {n len : Int} (ho : o = x + 92) (hx : x + 100 ≤ z) (c : CI G x z K N I R f h s v P n len) (hS : ShM G z K N R o) (hJ : ∀ a : Nat, (a < x + 92 ∨ x + 100 ≤ a) → J a = I a) (r1 : J (o + 1) = f) (r2 : J (o + 2) = h) (r3 : J (o + 3) = s) (r4 : J (o + 4) = v) (r5 : J (o + 5) = P) (r6 : J o 2 = n) (r7 : J o 6 = len) (hF : FOk (J o)) (hv : ∀ k : Nat, k < 2 → v k = 0 ∨ v k = 1) : LI G x o z K N J R := by
  subst r1 r2 r3 r4 r5 r6 r7
  exact ⟨ho, hx, c.mdl hJ, hS, hF, hv⟩
theorem FrM.row {x z : Nat} {K N : Nat → Nat} {I : MI} {R : MR} {z' : Nat} {K' N' : Nat → Nat} {I' : MI} {R' : MR} (hf : FrM x z K N I R z' K' N' I' R') {o : Nat} (ho : o = x + 92) (j : Nat) (hj : j < 8) : I' (o + j) = I (o + j) ∧ R' (o + j) = R (o + j) := by
  subst ho
  exact hf.2.2 _ (by omega) (by omega)
theorem LI.sh {G : GG} {x o z : Nat} {K N : Nat → Nat} {I : MI} {R : MR} (h : LI G x o z K N I R) {z' : Nat} {K' N' : Nat → Nat} {I' : MI} {R' : MR} (hf : FrM x z K N I R z' K' N' I' R') : ShM G z' K' N' R' o := by
  obtain ⟨ho, hx, -, hS, -⟩ := h
  exact hS.mono hf.1 (fun a h1 h2 => hf.2.1 a (by omega)) (hf.row ho 0 (by omega)).2
theorem LI.ok {G : GG} {x o z : Nat} {K N : Nat → Nat} {I : MI} {R : MR} (h : LI G x o z K N I R) : Ok (I (o + 1)) ∧ (0 ≤ I o 2 ∧ I o 2 ≤ 6) ∧ POk (I (o + 5)) (I o 6) := by
  obtain ⟨_, _, ⟨_, _, c0, d0, _, g0, g1, g2⟩, _⟩ := h
  exact ⟨c0.2.2.1, d0.2.2.1, by rw [g2] at g0; exact g0⟩
theorem LI.chg {G : GG} {x o z : Nat} {K N : Nat → Nat} {I : MI} {R : MR} (h : LI G x o z K N I R) {a : Int} {cn : Prop} [Decidable cn] {f' : Nat → Int} {z1 : Nat} {K1 N1 : Nat → Nat} {I1 : MI} {R1 : MR} (hA : 0 ≤ a ↔ cn) (hP : CPc G x z K N I R a f' (I (o + 1)) (I (o + 2)) (I (o + 3)) (I (o + 4)) (I (o + 5)) (I o 2) (I o 6) z1 K1 N1 I1 R1) {J : MI}
    (hJ : cn → (∀ b : Nat, (b < x + 92 ∨ x + 100 ≤ b) → J b = I1 b) ∧ J (o + 1) = f' ∧ J (o + 2) = recH (I1 (o + 1)) (I1 (o + 2)) (I1 o 2) ∧ (∀ j : Nat, 3 ≤ j → j < 6 → J (o + j) = I1 (o + j)) ∧ J o 2 = recN (I1 o 2) + 1 ∧ J o 6 = I1 o 6 ∧ FOk (J o)) : LI G x o z1 K1 N1 (if cn then J else I1) R1 := by
  have hS := h.sh hP.1
  obtain ⟨ho, hx, hc, -, hF, hv⟩ := h
  obtain ⟨hf, p1, p2⟩ := hP
  have hz := hf.1
  have r0 : I1 o = I o := (hf.row ho 0 (by omega)).1
  have r1 := (hf.row ho 1 (by omega)).1
  have r2 := (hf.row ho 2 (by omega)).1
  have r3 := (hf.row ho 3 (by omega)).1
  have r4 := (hf.row ho 4 (by omega)).1
  have r5 := (hf.row ho 5 (by omega)).1
  by_cases hcn : cn
  · rw [if_pos hcn]
    obtain ⟨j0, j1, j2, j3, j4, j5, j6⟩ := hJ hcn
    rw [r1, r2, r0] at j2
    rw [r0] at j4 j5
    exact LI.mk ho (by omega) (p1 (hA.mpr hcn)) hS j0 j1 j2 ((j3 3 (by omega) (by omega)).trans r3) ((j3 4 (by omega) (by omega)).trans r4) ((j3 5 (by omega) (by omega)).trans r5) j4 j5 j6 hv
  · rw [if_neg hcn]
    exact LI.mk ho (by omega) (p2 fun q => hcn (hA.mp q)) hS (fun _ _ => rfl) r1 r2 r3 r4 r5 (by rw [r0]) (by rw [r0]) (by rw [r0]; exact hF) hv
theorem LI.std {G : GG} {x o z : Nat} {K N : Nat → Nat} {I : MI} {R : MR} (h : LI G x o z K N I R) {a : Int} {cn : Prop} [Decidable cn] {f' F : Nat → Int} {z1 : Nat} {K1 N1 : Nat → Nat} {I1 : MI} {R1 : MR} (hA : 0 ≤ a ↔ cn) (hP : CPc G x z K N I R a f' (I (o + 1)) (I (o + 2)) (I (o + 3)) (I (o + 4)) (I (o + 5)) (I o 2) (I o 6) z1 K1 N1 I1 R1) (hF : cn → F = f') : LI G x o z1 K1 N1 (if cn then va_up (recM I1 o) (o + 1) F else I1) R1 := by
  have r0 : I1 o = I o := (hP.1.row h.1 0 (by omega)).1
  have ho := h.1
  refine h.chg hA hP fun hcn => ⟨fun b hb => ?_, ?_, ?_, fun j h1 h2 => ?_, ?_, ?_, ?_⟩
  · rw [va_up_n (by omega)]; unfold recM; rw [u2_row (by omega), va_up_n (by omega)]
  · rw [va_up_s]; exact hF hcn
  · rw [va_up_n (by omega)]; unfold recM; rw [u2_row (by omega), va_up_s]
  · rw [va_up_n (by omega)]; unfold recM; rw [u2_row (by omega), va_up_n (by omega)]
  · rw [va_up_n (by omega)]; unfold recM; rw [u2_s]
  · rw [va_up_n (by omega)]; unfold recM; rw [u2_k (by omega), va_up_n (by omega)]
  · intro j h1 h2
    rw [va_up_n (by omega)]; unfold recM
    rw [u2_k (by omega), va_up_n (by omega), r0]
    exact h.2.2.2.2.1 j h1 h2
theorem LI.mem {G : GG} {x o z : Nat} {K N : Nat → Nat} {I J : MI} {R : MR} (h : LI G x o z K N I R) (hJ : ∀ b : Nat, b ≠ o → b ≠ o + 6 → b ≠ o + 7 → J b = I b) (h2 : J o 2 = I o 2) (h6 : J o 6 = I o 6) (hF : FOk (J o)) : LI G x o z K N J R := by
  obtain ⟨ho, hx, hc, hS, -, hv⟩ := h
  exact LI.mk ho hx hc hS (fun b hb => hJ b (by omega) (by omega) (by omega)) (hJ _ (by omega) (by omega) (by omega)) (hJ _ (by omega) (by omega) (by omega)) (hJ _ (by omega) (by omega) (by omega)) (hJ _ (by omega) (by omega) (by omega)) (hJ _ (by omega) (by omega) (by omega)) h2 h6 hF hv
theorem LI.nxt {G : GG} {x o z : Nat} {K N : Nat → Nat} {I : MI} {R : MR} (h : LI G x o z K N I R) {f' h' s' v' P' : Nat → Int} {n' len' : Int} {z1 : Nat} {K1 N1 : Nat → Nat} {I1 : MI} {R1 : MR} (hP : CPn G x z K N I R f' h' s' v' P' n' len' z1 K1 N1 I1 R1) {J : MI} (hJ : ∀ b : Nat, (b < x + 92 ∨ x + 100 ≤ b) → J b = I1 b) (r1 : J (o + 1) = f') (r2 : J (o + 2) = h') (r3 : J (o + 3) = s') (r4 : J (o + 4) = v') (r5 : J (o + 5) = P') (r6 : J o 2 = n') (r7 : J o 6 = len') (hF : FOk (J o)) (hv : ∀ k : Nat, k < 2 → v' k = 0 ∨ v' k = 1) : LI G x o z1 K1 N1 J R1 :=
  LI.mk h.1 (Nat.le_trans h.2.1 hP.1.1) hP.2 (h.sh hP.1) hJ r1 r2 r3 r4 r5 r6 r7 hF hv
theorem LI.fr {G : GG} {x o z : Nat} {K N : Nat → Nat} {I : MI} {R : MR} (h : LI G x o z K N I R) {z1 : Nat} {K1 N1 : Nat → Nat} {I1 : MI} {R1 : MR} (hP : CPn G x z K N I R (I (o + 1)) (I (o + 2)) (I (o + 3)) (I (o + 4)) (I (o + 5)) (I o 2) (I o 6) z1 K1 N1 I1 R1) : LI G x o z1 K1 N1 I1 R1 := by
  have r0 : I1 o = I o := (hP.1.row h.1 0 (by omega)).1
  exact h.nxt hP (fun _ _ => rfl) (hP.1.row h.1 1 (by omega)).1 (hP.1.row h.1 2 (by omega)).1 (hP.1.row h.1 3 (by omega)).1 (hP.1.row h.1 4 (by omega)).1 (hP.1.row h.1 5 (by omega)).1 (by rw [r0]) (by rw [r0]) (by rw [r0]; exact h.2.2.2.2.1) h.2.2.2.2.2
theorem va_upI (I : MI) (o : Nat) : va_up I o (I o) = I := funext fun a => by
  by_cases h : a = o
  · subst h; rw [va_up_s]
  · rw [va_up_n h]
theorem LI.ff {G : GG} {x o z : Nat} {K N : Nat → Nat} {I : MI} {R : MR} (h : LI G x o z K N I R) : LI G x o z K N (va_up I o (ffF (I (o + 5)) (I o))) R := by
  obtain ⟨a, b, c⟩ := ffV_ok2 h.ok.2.2 h.2.2.2.2.1
  exact h.mem (fun b h1 _ _ => va_up_n h1) (by rw [va_up_s]; exact c 2 (by omega)) (by rw [va_up_s]; exact c 6 (by omega)) (by rw [va_up_s]; exact b)
theorem LI.tst {G : GG} {x o z : Nat} {K N : Nat → Nat} {I : MI} {R : MR} (h : LI G x o z K N I R) (er pl sp : Int) (k : Nat) : LI G x o z K N (tstM I o er pl sp k) R :=
  h.mem (fun b h1 h2 h3 => tstM_r I o er pl sp k b h1 h2 h3) (tstM_j I o er pl sp k 2 (by omega) (by omega)) (tstM_j I o er pl sp k 6 (by omega) (by omega)) fun j h1 h2 => by
    rw [tstM_j I o er pl sp k j (by omega) (by omega)]; exact h.2.2.2.2.1 j h1 h2
