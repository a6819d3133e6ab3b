section ZX
variable {p : Program} {l : Launch} {e : Env} {Rm : Room} {s : State} {m : MethodId} {args : Array Value} {below : List Frame} {meth : Method} {c : Code} {G : GG} {cc : ByteArray} {nL : Nat} {own : String} {ret : Option FieldType}
variable {Q : State → Prop} {cells slots z : Nat} {K N : Nat → Nat} {I : MI} {R : MR} {pc : Nat} {lv : List (Nat × Value)} {st : List Value}
theorem z_sub (ks : List Nat) {lv' : List (Nat × Value)} (h : lv_pick lv ks = lv') (h2 : lvd lv' = true) (k : Zq p l e Rm s m args below meth c G nL Q cells slots z K N I R pc lv' st) : Zq p l e Rm s m args below meth c G nL Q cells slots z K N I R pc lv st := fun H locs ls hW hL hl _ => k H locs ls hW hL (lv_sub hl ks h) h2
theorem z_ixor1 (C : Cx p l e Rm s m args below meth c G cc nL own ret) {x y v : Int32} (d : decode cc pc = .ok (.ixor, 1)) (hv : x ^^^ y = v) (k : Zq p l e Rm s m args below meth c G nL Q cells slots z K N I R (pc + 1) lv (.int v :: st)) : Zq p l e Rm s m args below meth c G nL Q cells slots z K N I R pc lv (.int y :: .int x :: st) := z_ixor C d hv k
end ZX
/-- one bit of a set turned over, or taken out -/
def flipb (a : Int) (r : Nat) : Int := if a / 2 ^ r % 2 = 1 then a - 2 ^ r else a + 2 ^ r
def clrb (a : Int) (r : Nat) : Int := if a / 2 ^ r % 2 = 1 then a - 2 ^ r else a
theorem b2i_r {p : Prop} [Decidable p] : -2147483648 ≤ b2i p ∧ b2i p < 2147483648 := by unfold b2i; split <;> omega
theorem b2i_0 {p : Prop} [Decidable p] : b2i p = 0 ↔ ¬ p := by unfold b2i; split <;> simp_all
theorem b2i_1 {p : Prop} [Decidable p] : ¬ b2i p = 0 ↔ p := by unfold b2i; split <;> simp_all
theorem b2i_iff {p q : Prop} [Decidable p] [Decidable q] (h : p ↔ q) : b2i p = b2i q := by
  unfold b2i
  by_cases hp : p
  · rw [if_pos hp, if_pos (h.mp hp)]
  · rw [if_neg hp, if_neg (fun z => hp (h.mpr z))]
theorem natbit (n r : Nat) : ((n : Int) / 2 ^ r % 2 = 1) ↔ n.testBit r = true := by
  have h : (n : Int) / 2 ^ r % 2 = ((n / 2 ^ r % 2 : Nat) : Int) := by push_cast; rfl
  rw [h, Nat.testBit_eq_decide_div_mod_eq, decide_eq_true_eq]
  omega
theorem x_split {r a b s t : Nat} (hs : s < 2 ^ r) (ht : t < 2 ^ r) : (2 ^ r * a + s) ^^^ (2 ^ r * b + t) = 2 ^ r * (a ^^^ b) + (s ^^^ t) := by
  apply Nat.eq_of_testBit_eq
  intro j
  rw [Nat.testBit_xor, Nat.testBit_two_pow_mul_add a hs, Nat.testBit_two_pow_mul_add b ht, Nat.testBit_two_pow_mul_add (a ^^^ b) (Nat.xor_lt_two_pow hs ht)]
  split <;> rw [Nat.testBit_xor]
theorem x_one (m : Nat) : m ^^^ 1 = if m % 2 = 1 then m - 1 else m + 1 := by
  have h := x_split (r := 1) (a := m / 2) (b := 0) (s := m % 2) (t := 1) (by omega) (by omega)
  have e1 : 2 ^ 1 * (m / 2) + m % 2 = m := by omega
  have e2 : 2 ^ 1 * 0 + 1 = 1 := by omega
  rw [e1, e2, Nat.xor_zero] at h
  rw [h]
  rcases (show m % 2 = 0 ∨ m % 2 = 1 by omega) with e | e
  · rw [e, if_neg (by omega)]
    have : (0 : Nat) ^^^ 1 = 1 := by decide
    omega
  · rw [e, if_pos rfl]
    have : (1 : Nat) ^^^ 1 = 0 := by decide
    omega
theorem nat_flip (n r : Nat) : ((n ^^^ 2 ^ r : Nat) : Int) = flipb n r := by
  have hp : 0 < 2 ^ r := Nat.two_pow_pos r
  have h := x_split (r := r) (a := n / 2 ^ r) (b := 1) (s := n % 2 ^ r) (t := 0) (Nat.mod_lt _ hp) hp
  rw [Nat.div_add_mod, Nat.mul_one, Nat.add_zero, Nat.xor_zero, x_one] at h
  rw [h]
  have hb : ((n : Int) / 2 ^ r % 2 = 1) ↔ n / 2 ^ r % 2 = 1 := by
    rw [natbit, Nat.testBit_eq_decide_div_mod_eq, decide_eq_true_eq]
  have hd := Nat.div_add_mod n (2 ^ r)
  have hq : ((2 ^ r : Nat) : Int) = 2 ^ r := by push_cast; rfl
  unfold flipb
  by_cases hc : n / 2 ^ r % 2 = 1
  · rw [if_pos hc, if_pos (hb.mpr hc)]
    obtain ⟨k, hk⟩ : ∃ k, n / 2 ^ r = k + 1 := ⟨n / 2 ^ r - 1, by generalize n / 2 ^ r = x at hc; omega⟩
    rw [hk, Nat.add_sub_cancel]
    rw [hk, Nat.mul_add, Nat.mul_one] at hd
    rw [← hq]
    omega
  · rw [if_neg hc, if_neg (fun z => hc (hb.mp z)), Nat.mul_add, Nat.mul_one]
    rw [← hq]
    omega
theorem zI_pow (r : Nat) : zI (2 ^ r) = nI (2 ^ r) := by
  have hq : ((2 ^ r : Nat) : Int) = 2 ^ r := by push_cast; rfl
  rw [← hq]; rfl
theorem nx_xor (a b : Nat) : nI a ^^^ nI b = nI (a ^^^ b) := by
  apply Int32.toBitVec_inj.1
  show BitVec.ofNat 32 a ^^^ BitVec.ofNat 32 b = BitVec.ofNat 32 (a ^^^ b)
  apply BitVec.eq_of_getLsbD_eq
  intro i hi
  simp [hi]
theorem nx_or (a b : Nat) : nI a ||| nI b = nI (a ||| b) := by
  apply Int32.toBitVec_inj.1
  show BitVec.ofNat 32 a ||| BitVec.ofNat 32 b = BitVec.ofNat 32 (a ||| b)
  apply BitVec.eq_of_getLsbD_eq
  intro i hi
  simp [hi]
theorem nx_and (a b : Nat) : nI a &&& nI b = nI (a &&& b) := by
  apply Int32.toBitVec_inj.1
  show BitVec.ofNat 32 a &&& BitVec.ofNat 32 b = BitVec.ofNat 32 (a &&& b)
  apply BitVec.eq_of_getLsbD_eq
  intro i hi
  simp [hi]
theorem zI_xorb {a : Int} (ha : 0 ≤ a) (r : Nat) : zI a ^^^ zI (2 ^ r) = zI (flipb a r) := by
  obtain ⟨n, rfl⟩ := Int.eq_ofNat_of_zero_le ha
  rw [zI_nI, zI_pow, nx_xor, ← nat_flip]
  rfl
theorem nat_or (n r : Nat) (h : n.testBit r = false) : n ||| 2 ^ r = n ^^^ 2 ^ r := by
  apply Nat.eq_of_testBit_eq
  intro j
  rw [Nat.testBit_or, Nat.testBit_xor, Nat.testBit_two_pow]
  by_cases hj : r = j
  · subst hj; simp [h]
  · simp [hj]
theorem zI_orb {a : Int} (ha : 0 ≤ a) {r : Nat} (h : ¬ a / 2 ^ r % 2 = 1) : zI a ||| zI (2 ^ r) = zI (a + 2 ^ r) := by
  obtain ⟨n, rfl⟩ := Int.eq_ofNat_of_zero_le ha
  have hb : n.testBit r = false := by
    cases hc : n.testBit r with
    | false => rfl
    | true => exact absurd ((natbit n r).mpr hc) h
  rw [zI_nI, zI_pow, nx_or, nat_or n r hb, ← zI_nI, nat_flip]
  unfold flipb
  rw [if_neg h]
theorem nat_clr {n r : Nat} : nI n &&& (nI (2 ^ r) ^^^ zI (-1)) = nI (if n.testBit r = true then n ^^^ 2 ^ r else n) := by
  apply Int32.toBitVec_inj.1
  have hm : (zI (-1)).toBitVec = BitVec.allOnes 32 := by decide +kernel
  rw [Int32.toBitVec_and, Int32.toBitVec_xor, hm]
  show BitVec.ofNat 32 n &&& (BitVec.ofNat 32 (2 ^ r) ^^^ _) = BitVec.ofNat 32 _
  apply BitVec.eq_of_getLsbD_eq
  intro i hi
  by_cases hb : n.testBit r = true
  · rw [if_pos hb]
    simp only [BitVec.getLsbD_and, BitVec.getLsbD_xor, BitVec.getLsbD_ofNat, BitVec.getLsbD_allOnes, hi, decide_true, Bool.true_and, Nat.testBit_xor, Nat.testBit_two_pow]
    by_cases hj : r = i
    · subst hj; rw [hb]; simp
    · simp [hj]
  · rw [if_neg hb]
    simp only [BitVec.getLsbD_and, BitVec.getLsbD_xor, BitVec.getLsbD_ofNat, BitVec.getLsbD_allOnes, hi, decide_true, Bool.true_and, Nat.testBit_xor, Nat.testBit_two_pow]
    by_cases hj : r = i
    · subst hj
      have hb : n.testBit r = false := by simpa using hb
      rw [hb]; simp
    · simp [hj]
theorem zI_clrb {a : Int} (ha : 0 ≤ a) (r : Nat) : zI a &&& (zI (2 ^ r) ^^^ zI (-1)) = zI (clrb a r) := by
  obtain ⟨n, rfl⟩ := Int.eq_ofNat_of_zero_le ha
  rw [zI_nI, zI_pow, nat_clr]
  unfold clrb
  by_cases hb : n.testBit r = true
  · rw [if_pos hb, if_pos ((natbit n r).mpr hb), ← zI_nI, nat_flip]
    unfold flipb
    rw [if_pos ((natbit n r).mpr hb)]
  · rw [if_neg hb, if_neg (fun z => hb ((natbit n r).mp z))]
    rfl
