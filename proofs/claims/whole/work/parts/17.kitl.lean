/-! long words as whole numbers below 2^64 -/
def zU (n : Nat) : Int64 := (UInt64.ofNat n).toInt64
theorem zU_of (x : Int64) : zU x.toUInt64.toNat = x := by
  unfold zU
  rw [UInt64.ofNat_toNat]
  simp
theorem zU_bv (n : Nat) : (zU n).toBitVec = BitVec.ofNat 64 n := by
  unfold zU
  simp
theorem zU_and {a b : Nat} (k : Nat) (hb : b + 1 = 2 ^ k) (hk : k < 64) (ha : a < 2 ^ 64) : zU a &&& zU b = zU (a % 2 ^ k) := by
  apply Int64.toBitVec_inj.1
  rw [Int64.toBitVec_and, zU_bv, zU_bv, zU_bv]
  apply BitVec.eq_of_toNat_eq
  have h1 : 2 ^ k < 2 ^ 64 := Nat.pow_lt_pow_right (by omega) hk
  have h2 : a % 2 ^ k < 2 ^ k := Nat.mod_lt _ (Nat.two_pow_pos k)
  rw [BitVec.toNat_and, BitVec.toNat_ofNat, BitVec.toNat_ofNat, BitVec.toNat_ofNat, Nat.mod_eq_of_lt ha, Nat.mod_eq_of_lt (show b < 2 ^ 64 by omega), Nat.mod_eq_of_lt (show a % 2 ^ k < 2 ^ 64 by omega), show b = 2 ^ k - 1 by omega, Nat.and_two_pow_sub_one_eq_mod]
theorem zU_toInt {a : Nat} (ha : a < 2 ^ 63) : (zU a).toInt = a := by
  have e : (zU a).toInt = (zU a).toBitVec.toInt := rfl
  rw [e, zU_bv, BitVec.toInt_eq_toNat_cond, BitVec.toNat_ofNat, Nat.mod_eq_of_lt (show a < 2 ^ 64 by omega), if_pos (by omega)]
theorem zU_l2i {a : Nat} (ha : a < 2147483648) : (zU a).toInt32 = zI (a : Int) := by
  apply Int32.toInt_inj.mp
  rw [zI_int ⟨by omega, by omega⟩, Jvm.Kit.i32_of_i64 (by rw [zU_toInt (by omega)]; omega) (by rw [zU_toInt (by omega)]; omega), zU_toInt (by omega)]
theorem zU_inj {a b : Nat} (ha : a < 2 ^ 64) (hb : b < 2 ^ 64) : zU a = zU b ↔ a = b := by
  constructor
  · intro h
    have h1 := congrArg (fun x => x.toBitVec.toNat) h
    simp only [zU_bv, BitVec.toNat_ofNat] at h1
    rwa [Nat.mod_eq_of_lt ha, Nat.mod_eq_of_lt hb] at h1
  · intro h; rw [h]
theorem zI_sh63 : ∀ k : Fin 64, ((zI (k.val : Int)).toInt64.toUInt64 &&& Int64.toUInt64 63).toNat = k.val := by decide +kernel
theorem zU_shr {a k : Nat} (hk : k < 64) (ha : a < 2 ^ 64) : ((zU a).toUInt64 >>> ((zI (k : Int)).toInt64.toUInt64 &&& Int64.toUInt64 63)).toInt64 = zU (a / 2 ^ k) := by
  have hs := zI_sh63 ⟨k, hk⟩
  simp only at hs
  apply Int64.toBitVec_inj.1
  apply BitVec.eq_of_toNat_eq
  have h1 : a / 2 ^ k ≤ a := Nat.div_le_self _ _
  rw [zU_bv]
  simp only [UInt64.toBitVec_toInt64, UInt64.toBitVec_shiftRight, Int64.toBitVec_toUInt64]
  rw [zU_bv]
  simp only [BitVec.toNat_ofNat]
  rw [Nat.mod_eq_of_lt (show a / 2 ^ k < 2 ^ 64 by omega)]
  simp only [UInt64.toNat_toBitVec, BitVec.toNat_ushiftRight, BitVec.ushiftRight_eq', BitVec.toNat_umod, hs, BitVec.toNat_ofNat, Nat.shiftRight_eq_div_pow, Nat.mod_eq_of_lt ha]
  simp [hs, Nat.mod_eq_of_lt hk]
/-- the order of two long words, the left below 2^63 or the right 0 -/
def cmU (a b : Nat) : Int := if a < 2 ^ 63 then (if b < a then 1 else if a = b then 0 else -1) else -1
theorem cmU_rng (a b : Nat) : -1 ≤ cmU a b ∧ cmU a b ≤ 1 := by unfold cmU; repeat' split <;> omega
theorem lg_zU {a b : Nat} (ha : a < 2 ^ 64) (hb : b < 2 ^ 63) : lg_cmp (zU a) (zU b) = zI (cmU a b) := by
  have hb2 := zU_toInt hb
  unfold lg_cmp cmU
  by_cases h : a < 2 ^ 63
  · have ha2 := zU_toInt h
    rw [if_pos h]
    by_cases h1 : b < a
    · rw [if_pos h1, if_pos (Int64.lt_iff_toInt_lt.mpr (by omega))]; rfl
    · rw [if_neg h1, if_neg (fun z => by have := Int64.lt_iff_toInt_lt.mp z; omega)]
      by_cases h2 : a = b
      · rw [if_pos h2, if_pos (by rw [h2])]; rfl
      · rw [if_neg h2, if_neg (fun z => h2 ((zU_inj ha (by omega)).mp z))]; rfl
  · rw [if_neg h]
    have e : (zU a).toInt = (a : Int) - 2 ^ 64 := by
      have e : (zU a).toInt = (zU a).toBitVec.toInt := rfl
      rw [e, zU_bv, BitVec.toInt_eq_toNat_cond, BitVec.toNat_ofNat, Nat.mod_eq_of_lt ha, if_neg (by omega)]
      omega
    rw [if_neg (fun z => by have := Int64.lt_iff_toInt_lt.mp z; omega), if_neg (fun z => by have := (zU_inj ha (by omega)).mp z; omega)]; rfl
theorem cmU_0 (a : Nat) : cmU a 0 = 0 ↔ a = 0 := by unfold cmU; repeat' split <;> omega
theorem cmU_lt {a b : Nat} (ha : a < 2 ^ 63) : cmU a b < 0 ↔ a < b := by unfold cmU; repeat' split <;> omega
theorem cmU_le {a b : Nat} (ha : a < 2 ^ 63) : cmU a b ≤ 0 ↔ a ≤ b := by unfold cmU; repeat' split <;> omega
theorem zI_i2c {x : Int} (h : 0 ≤ x ∧ x < 65536) : ((zI x).toUInt32 % 65536).toInt32 = zI x := lg_i2c_word (by rw [zI_int ⟨by omega, by omega⟩]; exact h.1) (by rw [zI_int ⟨by omega, by omega⟩]; exact h.2)
section ZL
variable {p : Program} {l : Launch} {e : Env} {Rm : Room} {s : State} {m : MethodId} {args : Array Value} {below : List Frame} {meth : Method} {c : Code} {G : GG} {cc : ByteArray} {nL : Nat} {own : String} {ret : Option FieldType}
variable {Q : State → Prop} {cells slots z : Nat} {K N : Nat → Nat} {I : MI} {R : MR} {pc : Nat} {lv : List (Nat × Value)} {st : List Value}
theorem z_lconst (C : Cx p l e Rm s m args below meth c G cc nL own ret) {n : Fin 2} (x : Nat) (hx : (n : Nat) = x) (d : decode cc pc = .ok (.lconst n, 1)) (k : Zq p l e Rm s m args below meth c G nL Q cells slots z K N I R (pc + 1) lv (.long (zU (x)) :: st)) : Zq p l e Rm s m args below meth c G nL Q cells slots z K N I R pc lv st := fun H locs ls hW hL hl hd =>
  lv_lconst C.1 C.2.1 d (by subst hx; unfold zU; simp [Int64.ofNat]) (k H locs ls hW hL hl hd)
theorem z_ldc2 (C : Cx p l e Rm s m args below meth c G cc nL own ret) {i : Nat} {v : Int64} (x : Nat) (hx : v = zU x) (d : decode cc pc = .ok (.ldc2_w i, 3)) (hw : Cond.constantLong own i v ∈ wsL_law) (k : Zq p l e Rm s m args below meth c G nL Q cells slots z K N I R (pc + 3) lv (.long (zU (x)) :: st)) : Zq p l e Rm s m args below meth c G nL Q cells slots z K N I R pc lv st := fun H locs ls hW hL hl hd =>
  lv_ldc2 C.1 C.2.1 C.2.2.2.1 (C.2.2.2.2.1 _ hw) d (hx ▸ k H locs ls hW hL hl hd)
theorem z_ldcw (C : Cx p l e Rm s m args below meth c G cc nL own ret) {i : Nat} {n : Int} (d : decode cc pc = .ok (.ldc_w i, 3)) (hw : Cond.constant own i (zI n) ∈ wsL_law) (k : Zq p l e Rm s m args below meth c G nL Q cells slots z K N I R (pc + 3) lv (.int (zI n) :: st)) : Zq p l e Rm s m args below meth c G nL Q cells slots z K N I R pc lv st := fun H locs ls hW hL hl hd =>
  lv_ldcw C.1 C.2.1 C.2.2.2.1 (C.2.2.2.2.1 _ hw) d (k H locs ls hW hL hl hd)
theorem z_land (C : Cx p l e Rm s m args below meth c G cc nL own ret) {a b : Nat} (q : Nat) (hb : b + 1 = 2 ^ q) (hq : q < 64) (ha : a < 2 ^ 64) (d : decode cc pc = .ok (.land, 1)) (k : Zq p l e Rm s m args below meth c G nL Q cells slots z K N I R (pc + 1) lv (.long (zU (a % 2 ^ q)) :: st)) : Zq p l e Rm s m args below meth c G nL Q cells slots z K N I R pc lv (.long (zU (b)) :: .long (zU (a)) :: st) := fun H locs ls hW hL hl hd =>
  lv_land C.1 C.2.1 d (by rw [zU_and q hb hq ha]; exact k H locs ls hW hL hl hd)
theorem z_lushr (C : Cx p l e Rm s m args below meth c G cc nL own ret) {a j : Nat} (hj : j < 64) (ha : a < 2 ^ 64) (d : decode cc pc = .ok (.lushr, 1)) (k : Zq p l e Rm s m args below meth c G nL Q cells slots z K N I R (pc + 1) lv (.long (zU (a / 2 ^ j)) :: st)) : Zq p l e Rm s m args below meth c G nL Q cells slots z K N I R pc lv (.int (zI (j : Int)) :: .long (zU (a)) :: st) := fun H locs ls hW hL hl hd =>
  lv_lushr C.1 C.2.1 d (zU_shr hj ha) (k H locs ls hW hL hl hd)
theorem z_l2i (C : Cx p l e Rm s m args below meth c G cc nL own ret) {a : Nat} (ha : a < 2147483648) (d : decode cc pc = .ok (.l2i, 1)) (k : Zq p l e Rm s m args below meth c G nL Q cells slots z K N I R (pc + 1) lv (.int (zI (a : Int)) :: st)) : Zq p l e Rm s m args below meth c G nL Q cells slots z K N I R pc lv (.long (zU (a)) :: st) := fun H locs ls hW hL hl hd =>
  lv_l2i C.1 C.2.1 d (zU_l2i ha) (k H locs ls hW hL hl hd)
theorem z_i2c (C : Cx p l e Rm s m args below meth c G cc nL own ret) {x : Int} (hx : 0 ≤ x ∧ x < 65536) (d : decode cc pc = .ok (.i2c, 1)) (k : Zq p l e Rm s m args below meth c G nL Q cells slots z K N I R (pc + 1) lv (.int (zI x) :: st)) : Zq p l e Rm s m args below meth c G nL Q cells slots z K N I R pc lv (.int (zI x) :: st) := fun H locs ls hW hL hl hd =>
  lv_i2c C.1 C.2.1 d (zI_i2c hx) (k H locs ls hW hL hl hd)
theorem z_lcmp (C : Cx p l e Rm s m args below meth c G cc nL own ret) {a b : Nat} (ha : a < 2 ^ 64) (hb : b < 2 ^ 63) (d : decode cc pc = .ok (.lcmp, 1)) (k : Zq p l e Rm s m args below meth c G nL Q cells slots z K N I R (pc + 1) lv (.int (zI (cmU a b)) :: st)) : Zq p l e Rm s m args below meth c G nL Q cells slots z K N I R pc lv (.long (zU (b)) :: .long (zU (a)) :: st) := fun H locs ls hW hL hl hd =>
  W.lcmp C.1 C.2.1 d (by rw [lg_zU ha hb]; exact k H locs ls hW hL hl hd)
theorem z_lstore (C : Cx p l e Rm s m args below meth c G cc nL own ret) {i : Nat} {x : Int64} {lv' : List (Nat × Value)} (d : decode cc pc = .ok (.lstore i, 2)) (hn : i + 1 < nL) (hv : (i, Value.long x) :: lv.filter (fun q => !(q.1 == i) && (!(q.1 == i + 1) && !(q.1 + 1 == i && q.2.category == 2))) = lv') (h2 : lvd lv' = true) (k : Zq p l e Rm s m args below meth c G nL Q cells slots z K N I R (pc + 2) lv' st) : Zq p l e Rm s m args below meth c G nL Q cells slots z K N I R pc lv (.long x :: st) := fun H locs ls hW hL hl hd =>
  lv_lstore C.1 C.2.1 d hl hn hv (fun ls1 h1 => k H locs ls1 hW hL h1 h2)
theorem z_lstore_n (C : Cx p l e Rm s m args below meth c G cc nL own ret) {j : Fin 4} {i : Nat} {x : Int64} {lv' : List (Nat × Value)} (d : decode cc pc = .ok (.lstore_n j, 1)) (hi : (j : Nat) = i) (hn : i + 1 < nL) (hv : (i, Value.long x) :: lv.filter (fun q => !(q.1 == i) && (!(q.1 == i + 1) && !(q.1 + 1 == i && q.2.category == 2))) = lv') (h2 : lvd lv' = true) (k : Zq p l e Rm s m args below meth c G nL Q cells slots z K N I R (pc + 1) lv' st) : Zq p l e Rm s m args below meth c G nL Q cells slots z K N I R pc lv (.long x :: st) := fun H locs ls hW hL hl hd =>
  lv_lstore_n C.1 C.2.1 d hi hl hn hv (fun ls1 h1 => k H locs ls1 hW hL h1 h2)
end ZL
