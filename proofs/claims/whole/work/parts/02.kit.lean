/-! whole numbers for ints; a memory of whole numbers and references; a method's state by its pc, locals, stack, memory -/
def zI (x : Int) : Int32 := Int32.ofInt x
theorem zI_of (x : Int32) : zI x.toInt = x := Int32.ofInt_toInt x
theorem zI_int {x : Int} (h : -2147483648 ≤ x ∧ x < 2147483648) : (zI x).toInt = x := by
  unfold zI
  exact Int32.toInt_ofInt_of_le (by simpa using h.1) (by simpa using h.2)
theorem zI_rng (x : Int32) : -2147483648 ≤ x.toInt ∧ x.toInt < 2147483648 := ⟨by have := Int32.le_toInt x; simpa using this, by have := Int32.toInt_lt x; simpa using this⟩
theorem zI_add (a b : Int) : zI a + zI b = zI (a + b) := (Int32.ofInt_add a b).symm
theorem zI_sub (a b : Int) : zI a - zI b = zI (a - b) := (Int32.ofInt_sub a b).symm
theorem zI_mul (a b : Int) : zI a * zI b = zI (a * b) := (Int32.ofInt_mul a b).symm
theorem zI_neg (a : Int) : - zI a = zI (-a) := (Int32.ofInt_neg a).symm
theorem zI_nI (n : Nat) : zI (n : Int) = nI n := rfl
theorem zI_lt {a b : Int} (ha : -2147483648 ≤ a ∧ a < 2147483648) (hb : -2147483648 ≤ b ∧ b < 2147483648) : zI a < zI b ↔ a < b := by
  rw [Int32.lt_iff_toInt_lt, zI_int ha, zI_int hb]
theorem zI_le {a b : Int} (ha : -2147483648 ≤ a ∧ a < 2147483648) (hb : -2147483648 ≤ b ∧ b < 2147483648) : zI a ≤ zI b ↔ a ≤ b := by
  rw [Int32.le_iff_toInt_le, zI_int ha, zI_int hb]
theorem zI_eq {a b : Int} (ha : -2147483648 ≤ a ∧ a < 2147483648) (hb : -2147483648 ≤ b ∧ b < 2147483648) : zI a = zI b ↔ a = b := by
  rw [← Int32.toInt_inj, zI_int ha, zI_int hb]
theorem zI_0 : (0 : Int32) = zI 0 := by decide +kernel
theorem zI_div {a b : Int} (ha : 0 ≤ a ∧ a < 2147483648) (hb : 0 < b ∧ b < 2147483648) : zI a / zI b = zI (a / b) := by
  obtain ⟨n, rfl⟩ := Int.eq_ofNat_of_zero_le ha.1
  obtain ⟨k, rfl⟩ := Int.eq_ofNat_of_zero_le (Int.le_of_lt hb.1)
  rw [← Int.natCast_ediv, zI_nI, zI_nI, zI_nI]
  exact pk_div (by omega) (by omega) (by omega)
theorem zI_rem {a b : Int} (ha : 0 ≤ a ∧ a < 2147483648) (hb : 0 < b ∧ b < 2147483648) : zI a - zI a / zI b * zI b = zI (a % b) := by
  rw [zI_div ha hb, zI_mul, zI_sub]
  congr 1
  have := Int.mul_ediv_add_emod a b
  rw [Int.mul_comm] at this
  omega
theorem zI_idx {x : Int} {n : Nat} (h0 : 0 ≤ x) (h : x < (n : Int)) (hn : n < 2147483648) : vp_in (zI x) n ∧ (zI x).toNatClampNeg = x.toNat := by
  obtain ⟨k, rfl⟩ := Int.eq_ofNat_of_zero_le h0
  rw [zI_nI]
  exact ⟨vp_in_nI (by omega) (by omega), by rw [nI_clamp (by omega)]; rfl⟩
theorem zI_clamp {x : Int} (h0 : 0 ≤ x) (h : x < 2147483648) : (zI x).toNatClampNeg = x.toNat ∧ ¬ zI x < 0 := by
  obtain ⟨k, rfl⟩ := Int.eq_ofNat_of_zero_le h0
  rw [zI_nI]
  exact ⟨by rw [nI_clamp (by omega)]; rfl, nI_pos (by omega)⟩
abbrev MI : Type := Nat → Nat → Int
abbrev MR : Type := Nat → Nat → Option Nat
def u2 {α : Type} (f : Nat → Nat → α) (a k : Nat) (v : α) : Nat → Nat → α := fun b j => if b = a ∧ j = k then v else f b j
theorem u2_s {α : Type} (f : Nat → Nat → α) (a k : Nat) (v : α) : u2 f a k v a k = v := if_pos ⟨rfl, rfl⟩
theorem u2_a {α : Type} {f : Nat → Nat → α} {a k b j : Nat} {v : α} (h : b ≠ a) : u2 f a k v b j = f b j := if_neg fun q => h q.1
theorem u2_k {α : Type} {f : Nat → Nat → α} {a k b j : Nat} {v : α} (h : j ≠ k) : u2 f a k v b j = f b j := if_neg fun q => h q.2
theorem u2_row {α : Type} {f : Nat → Nat → α} {a k b : Nat} {v : α} (h : b ≠ a) : u2 f a k v b = f b := funext fun _ => u2_a h
def zty : Nat → Nat → FieldType
  | 0 => tyX0
  | 1 => tyX1
  | 2 => tyX2
  | 3 => tyX3
  | 4 => tyX4
  | 5 => tyX5
  | 6 => tyX6
  | _ => tyX7
def znf : Nat → Nat
  | 0 => 3
  | 1 => 5
  | 2 => 3
  | 3 => 5
  | 4 => 6
  | 5 => 7
  | 6 => 5
  | _ => 16
def zfv (ty : FieldType) (x : Int) (r : Option Nat) : Value := match ty with
  | .int => .int (zI x)
  | _ => va_rf r
def zfs (c : Nat) (I : MI) (R : MR) (a : Nat) : List Value := (List.range (znf c)).map (fun k => zfv (zty c k) (I a k) (R a k))
def zat (ct : Nat → ClassId) (K N : Nat → Nat) (I : MI) (R : MR) (a : Nat) : va_E :=
  if K a < 8 then .inr (K a, zfs (K a) I R a)
  else if K a = 8 then .inl (ct 0, N a, .inl (fun j => zI (I a j)))
  else if K a = 9 then .inl (ct 1, N a, .inl (fun j => zI (I a j)))
  else if K a = 10 then .inl (ct 2, N a, .inr (.inr (.inr (.inr (R a)))))
  else .inl (ct 3, N a, .inr (.inr (.inr (.inr (R a)))))
def ztys (ct : Nat → ClassId) : List (ClassId × FieldType) := [(ct 0, .char), (ct 1, .int), (ct 2, .object RX1), (ct 3, .object RX4)]
abbrev vwCl : List vw_C := [(RX0, TX0, 3), (RX1, TX1, 5), (RX2, TX2, 3), (RX3, TX3, 5), (RX4, TX4, 6), (RX5, TX5, 7), (RX6, TX6, 5), (RX7, TX7, 16)]
/-- what all methods of a run share: the classes, the arrays' classes, the heap of the law's start -/
abbrev GG : Type := va_G × (Nat → ClassId) × Heap
def Wh (G : GG) (z : Nat) (K N : Nat → Nat) (I : MI) (R : MR) (H : Heap) : Prop :=
  H.size = z ∧ G.2.2.size ≤ z ∧ (∀ q : Nat, q < G.2.2.size → H[q]? = G.2.2[q]?) ∧ ∀ a : Nat, G.2.2.size ≤ a → a < z → va_at G.1 vwCl (a, zat G.2.1 K N I R a) H
/-- the static arrays of GaugeColumns -/
def zsta (U : State) (H0 : Heap) (n : String) (f : Nat → Int) : Prop := ∃ t : Nat, va_Z RX6 n "[I" (.ref t) (fun q => H0.size ≤ q) U H0 ∧ ∃ cell : Cell, H0[t]? = some cell ∧ (cell.vm.isStatics = false ∧ cell.vm ≠ .unknown) ∧ U.isArrayOf cell .int ∧ U.vm.findClass "[I" = some cell.cls ∧ cell.slots.size = 3 ∧ ∀ j : Nat, j < 3 → cell.slots[j]? = some (.int (zI (f j)))
def zF0 : Nat → Int := fun j => if j = 0 then 4 else if j = 1 then 10 else 50
def zF1 : Nat → Int := fun j => if j = 0 then 0 else if j = 1 then 1 else 0
def zF2 : Nat → Int := fun j => if j = 0 then 9 else if j = 1 then 99 else 999
/-- the words that a nest mate's links need -/
def znwF : List (String × Nat × String × String × String × String) := [(RX4, 9, RX6, "AT_FIRST", "[I", RX6), (RX4, 53, RX6, "LEAST", "[I", RX6), (RX4, 56, RX6, "MOST", "[I", RX6)]
def znwM : List (String × Nat × MethodName × String) := [(RX6, 29, yX5_init, RX6), (RX6, 36, yX3_init, RX6), (RX1, 34, yX6_dividedDown, RX6), (RX1, 38, yX6_dividedRounded, RX6), (RX4, 113, yX6_weightOf, RX6), (RX4, 117, yX6_dividedDown, RX6), (RX4, 32, yX1_init, RX6), (RX5, 17, yX1_init, RX6)]
def Wv (G : GG) (U : State) : Prop :=
  va_K G.1 vwCl (ztys G.2.1) U ∧ (zsta U G.2.2 "AT_FIRST" zF0 ∧ zsta U G.2.2 "LEAST" zF1 ∧ zsta U G.2.2 "MOST" zF2) ∧
  (∀ w ∈ znwF, va_Nw (.fieldLinkNest w.1 w.2.1 w.2.2.1 w.2.2.2.1 w.2.2.2.2.1 w.2.2.2.2.2) U) ∧ (∀ w ∈ znwM, va_Nw (.methodLinkNest w.1 w.2.1 w.2.2.1 w.2.2.2) U) ∧
  va_Nw (.castable "[I" "java/lang/Cloneable") U ∧ va_AO RX1 U ∧ va_AO RX4 U
theorem zsta_moved {u U : State} {H0 : Heap} {n : String} {f : Nat → Int} (hvm : u.vm.Alike U.vm) (h : zsta u H0 n f) : zsta U H0 n f := by
  obtain ⟨t, h1, cell, h2, h3, h4, h5, h6⟩ := h
  exact ⟨t, h1.moved hvm, cell, h2, h3, State.isArrayOf_alike hvm h4, by rw [hvm.findClass]; exact h5, h6⟩
theorem Wv.warm {G : GG} {s U : State} (hW : s.WarmedH U.vm) (h : Wv G s) : Wv G U := by
  obtain ⟨h1, ⟨a1, a2, a3⟩, h2, h3, h4, h5, h6⟩ := h
  exact ⟨h1.moved hW.alike, ⟨zsta_moved hW.alike a1, zsta_moved hW.alike a2, zsta_moved hW.alike a3⟩, fun w hw => (h2 w hw).warmF hW, fun w hw => (h3 w hw).warmM hW, h4.warmC hW, h5.moved hW.alike, h6.moved hW.alike⟩
theorem Wv.calling {G : GG} {U : State} {g : JFrame} {mk : MethodId} {a : Array Value} (h : Wv G U) : Wv G (U.calling g mk a) := by
  obtain ⟨h1, ⟨a1, a2, a3⟩, h2, h3, h4, h5, h6⟩ := h
  have hA : U.vm.Alike (U.calling g mk a).vm := Vm.Alike.refl U.vm
  exact ⟨h1.moved hA, ⟨zsta_moved hA a1, zsta_moved hA a2, zsta_moved hA a3⟩, fun w hw => (h2 w hw).same rfl rfl, fun w hw => (h3 w hw).same rfl rfl, h4.same rfl rfl, h5.moved hA, h6.moved hA⟩
def zK (G : GG) (z : Nat) (K : Nat → Nat) (a c : Nat) : Prop := G.2.2.size ≤ a ∧ a < z ∧ K a = c
theorem zat_o {ct : Nat → ClassId} {K N : Nat → Nat} {I : MI} {R : MR} {a c : Nat} (h : K a = c) (hc : c < 8) : zat ct K N I R a = .inr (c, zfs c I R a) := by
  subst h; exact if_pos hc
theorem zat_c {ct : Nat → ClassId} {K N : Nat → Nat} {I : MI} {R : MR} {a : Nat} (h : K a = 8) : zat ct K N I R a = .inl (ct 0, N a, .inl (fun j => zI (I a j))) := by
  simp [zat, h]
theorem zat_i {ct : Nat → ClassId} {K N : Nat → Nat} {I : MI} {R : MR} {a : Nat} (h : K a = 9) : zat ct K N I R a = .inl (ct 1, N a, .inl (fun j => zI (I a j))) := by
  simp [zat, h]
theorem zat_g {ct : Nat → ClassId} {K N : Nat → Nat} {I : MI} {R : MR} {a : Nat} (h : K a = 10) : zat ct K N I R a = .inl (ct 2, N a, .inr (.inr (.inr (.inr (R a))))) := by
  simp [zat, h]
theorem zat_t {ct : Nat → ClassId} {K N : Nat → Nat} {I : MI} {R : MR} {a : Nat} (h : K a = 11) : zat ct K N I R a = .inl (ct 3, N a, .inr (.inr (.inr (.inr (R a))))) := by
  simp [zat, h]
theorem zat_cong {ct : Nat → ClassId} {K N K' N' : Nat → Nat} {I I' : MI} {R R' : MR} {a : Nat} (hK : K' a = K a) (hN : N' a = N a) (h1 : I' a = I a) (h2 : R' a = R a) : zat ct K' N' I' R' a = zat ct K N I R a := by
  simp only [zat, zfs, hK, hN, h1, h2]
theorem zfs_get {c k : Nat} {I : MI} {R : MR} {a : Nat} (hk : k < znf c) : (zfs c I R a)[k]? = some (zfv (zty c k) (I a k) (R a k)) := by
  simp [zfs, List.getElem?_map, List.getElem?_range hk]
theorem zfs_len {c : Nat} {I : MI} {R : MR} {a : Nat} : (zfs c I R a).length = znf c := by simp [zfs]
theorem zfs_set {c k : Nat} {I I' : MI} {R R' : MR} {a : Nat} (hk : k < znf c) {v : Value} (hv : zfv (zty c k) (I' a k) (R' a k) = v) (ho : ∀ j, j ≠ k → I' a j = I a j ∧ R' a j = R a j) : (zfs c I R a).set k v = zfs c I' R' a := by
  apply List.ext_getElem?
  intro j
  rw [List.getElem?_set]
  by_cases hj : k = j
  · subst hj
    rw [if_pos rfl, zfs_len, if_pos hk, zfs_get hk, hv]
  · rw [if_neg hj]
    by_cases hl : j < znf c
    · rw [zfs_get hl, zfs_get hl, (ho j (Ne.symm hj)).1, (ho j (Ne.symm hj)).2]
    · rw [List.getElem?_eq_none (by rw [zfs_len]; omega), List.getElem?_eq_none (by rw [zfs_len]; omega)]
theorem va_P1 {D : va_G} {cl : List vw_C} {q : Nat × va_E} {H : Heap} (h : va_at D cl q H) : va_P D cl [q] H := by
  intro k x hx
  match k with
  | 0 => cases hx; exact h
  | k + 1 => simp at hx
theorem Wh.upd {G : GG} {z : Nat} {K N : Nat → Nat} {I I' : MI} {R R' : MR} {H H1 : Heap} {a : Nat} (h : Wh G z K N I R H) (ha : G.2.2.size ≤ a) (hz : H1.size = H.size) (oq : ∀ q : Nat, q ≠ a → H1[q]? = H[q]?) (hat : va_at G.1 vwCl (a, zat G.2.1 K N I' R' a) H1) (hI : ∀ b, b ≠ a → I' b = I b ∧ R' b = R b) : Wh G z K N I' R' H1 := by
  refine ⟨by rw [hz]; exact h.1, h.2.1, fun q hq => by rw [oq q (by omega)]; exact h.2.2.1 q hq, fun b h1 h2 => ?_⟩
  by_cases hb : b = a
  · subst hb; exact hat
  · rw [zat_cong (K := K) (N := N) (I := I) (R := R) rfl rfl (hI b hb).1 (hI b hb).2]
    exact (h.2.2.2 b h1 h2).kept (oq b hb)
theorem Wh.push {G : GG} {z : Nat} {K N K' N' : Nat → Nat} {I I' : MI} {R R' : MR} {H H1 : Heap} (h : Wh G z K N I R H) (hz : H1.size = H.size + 1) (oq : ∀ q : Nat, q < H.size → H1[q]? = H[q]?) (hat : va_at G.1 vwCl (z, zat G.2.1 K' N' I' R' z) H1) (hI : ∀ b, b < z → K' b = K b ∧ N' b = N b ∧ I' b = I b ∧ R' b = R b) : Wh G (z + 1) K' N' I' R' H1 := by
  obtain ⟨e, h1, h2, h3⟩ := h
  refine ⟨by omega, by omega, fun q hq => by rw [oq q (by omega)]; exact h2 q hq, fun b g1 g2 => ?_⟩
  by_cases hb : b = z
  · subst hb; exact hat
  · obtain ⟨i1, i2, i3, i4⟩ := hI b (by omega)
    rw [zat_cong (K := K) (N := N) (I := I) (R := R) i1 i2 i3 i4]
    exact (h3 b g1 (by omega)).kept (oq b (by omega))
/-- a method's contract -/
def Con (l : Launch) (G : GG) (y : MethodName) (ws : List Cond) (rm : Room) (mc ms : Nat) (av : List Value) (z : Nat) (K N : Nat → Nat) (I : MI) (R : MR) (P : Option Value → Nat → (Nat → Nat) → (Nat → Nat) → MI → MR → Prop) : Prop :=
  Met l y ws rm (va_Pc av (fun U => Wv G U ∧ Wh G z K N I R U.heap)) (fun _ _ oc t => ∃ (r : Option Value) (z' : Nat) (K' N' : Nat → Nat) (I' : MI) (R' : MR), oc = .returned r ∧ P r z' K' N' I' R' ∧ Wh G z' K' N' I' R' t.heap) mc ms (fun q => G.2.2.size ≤ q)
/-- the same, of a method that makes nothing and whose end is known -/
abbrev Cod (l : Launch) (G : GG) (y : MethodName) (ws : List Cond) (rm : Room) (av : List Value) (z : Nat) (K N : Nat → Nat) (I : MI) (R : MR) (r0 : Option Value) (I0 : MI) (R0 : MR) : Prop :=
  Con l G y ws rm 0 0 av z K N I R (fun r z' K' N' I' R' => r = r0 ∧ z' = z ∧ K' = K ∧ N' = N ∧ I' = I0 ∧ R' = R0)
def zpush : Option Value → List Value → List Value
  | none, s => s
  | some v, s => v :: s
def zst : List Value → List Value → List Value
  | [], r => r
  | v :: a, r => zst a (v :: r)
theorem zst_eq : ∀ (a r : List Value), zst a r = a.reverse ++ r
  | [], _ => rfl
  | v :: a, r => by rw [zst, zst_eq a, List.reverse_cons, List.append_assoc]; rfl
theorem zpush_eq (r : Option Value) (s : List Value) : zpush r s = r.toList ++ s := by cases r <;> rfl
def lvg : List (Nat × Value) → Nat → Option Value
  | [], _ => none
  | (j, v) :: r, i => bif Nat.beq j i then some v else lvg r i
def lvs : List (Nat × Value) → Nat → Value → List (Nat × Value)
  | [], i, v => [(i, v)]
  | (j, u) :: r, i, v => bif Nat.beq j i then (i, v) :: r else (j, u) :: lvs r i v
/-- the places are apart, and no long ends at one of them -/
def lvo : List (Nat × Value) → Nat → Bool
  | [], _ => true
  | (j, u) :: r, i => (bif Nat.beq (j + 1) i then (match u with | .long _ => false | .double _ => false | _ => true) else true) && lvo r i
def lvd : List (Nat × Value) → Bool
  | [] => true
  | (j, _) :: r => (r.all (fun q => !(Nat.beq q.1 j))) && lvd r
theorem lvg_mem : ∀ (lv : List (Nat × Value)) (i : Nat) (v : Value), lvg lv i = some v → (i, v) ∈ lv
  | [], _, _, h => by cases h
  | (j, u) :: r, i, v, h => by
    unfold lvg at h
    cases hb : Nat.beq j i with
    | true =>
      rw [hb] at h
      have e := Nat.eq_of_beq_eq_true hb
      simp only [cond_true, Option.some.injEq] at h
      subst e; subst h
      exact List.mem_cons_self
    | false =>
      rw [hb] at h
      exact List.mem_cons_of_mem _ (lvg_mem r i v h)
theorem lvg_at {ls : Array Slot} {nL : Nat} {lv : List (Nat × Value)} {i : Nat} {v : Value} (h : lv_has ls nL lv) (hg : lvg lv i = some v) : ls[i]? = some (.val v) := h.2.2 (i, v) (lvg_mem lv i v hg)
theorem lvs_mem : ∀ (lv : List (Nat × Value)) (i : Nat) (v : Value) (q : Nat × Value), lvd lv = true → q ∈ lvs lv i v → q = (i, v) ∨ (q ∈ lv ∧ q.1 ≠ i)
  | [], i, v, q, _, h => by
    rcases List.mem_cons.mp h with h | h
    · exact Or.inl h
    · cases h
  | (j, u) :: r, i, v, q, hd, h => by
    unfold lvd at hd
    rw [Bool.and_eq_true] at hd
    unfold lvs at h
    cases hb : Nat.beq j i with
    | true =>
      rw [hb] at h
      have e := Nat.eq_of_beq_eq_true hb
      subst e
      rcases List.mem_cons.mp h with h | h
      · exact Or.inl h
      · refine Or.inr ⟨List.mem_cons_of_mem _ h, fun e => ?_⟩
        have h2 := List.all_eq_true.mp hd.1 q h
        rw [e] at h2
        simp at h2
    | false =>
      rw [hb] at h
      rcases List.mem_cons.mp h with h | h
      · subst h
        refine Or.inr ⟨List.mem_cons_self, fun e => ?_⟩
        have e : j = i := e
        rw [e, Nat.beq_refl] at hb
        cases hb
      · rcases lvs_mem r i v q hd.2 h with h | h
        · exact Or.inl h
        · exact Or.inr ⟨List.mem_cons_of_mem _ h.1, h.2⟩
theorem lvo_mem : ∀ (lv : List (Nat × Value)) (i : Nat) (q : Nat × Value), lvo lv i = true → q ∈ lv → q.1 + 1 = i → ¬ q.2.category = 2
  | [], _, _, _, h, _ => by cases h
  | (j, u) :: r, i, q, ho, h, e => by
    unfold lvo at ho
    rw [Bool.and_eq_true] at ho
    rcases List.mem_cons.mp h with h | h
    · subst h
      have e : j + 1 = i := e
      have ho1 := ho.1
      rw [e, Nat.beq_refl] at ho1
      cases u <;> simp_all [Value.category]
    · exact lvo_mem r i q ho.2 h e
theorem lvs_has {ls' : Array Slot} {nL : Nat} {lv : List (Nat × Value)} {i : Nat} {v : Value} (hd : lvd lv = true) (ho : lvo lv i = true) (h : lv_has ls' nL ((i, v) :: lv.filter (fun q => !(q.1 == i) && !(q.1 + 1 == i && q.2.category == 2)))) : lv_has ls' nL (lvs lv i v) := by
  refine ⟨h.1, h.2.1, fun q hq => h.2.2 q ?_⟩
  rcases lvs_mem lv i v q hd hq with e | ⟨h1, h2⟩
  · rw [e]; exact List.mem_cons_self
  · refine List.mem_cons_of_mem _ (List.mem_filter.mpr ⟨h1, ?_⟩)
    have h3 : (q.1 == i) = false := by simpa using h2
    rw [h3]
    by_cases h4 : q.1 + 1 = i
    · have h5 := lvo_mem lv i q ho h1 h4
      simp [h5]
    · simp [h4]

def Cx (p : Program) (l : Launch) (e : Env) (Rm : Room) (s : State) (m : MethodId) (args : Array Value) (below : List Frame) (meth : Method) (c : Code) (G : GG) (cc : ByteArray) (nL : Nat) (own : String) (ret : Option FieldType) : Prop :=
  p.tables.exec = Jvm.exec ∧ c.code = cc ∧ c.maxLocals = nL ∧ s.vm.findClass own = some m.cls ∧ (∀ w ∈ wsL_law, w.before args s = true) ∧ meth.locks = false ∧ meth.sig.returnType = ret ∧ Wv G s ∧ nL < 2 ^ 16
def Zq (p : Program) (l : Launch) (e : Env) (Rm : Room) (s : State) (m : MethodId) (args : Array Value) (below : List Frame) (meth : Method) (c : Code) (G : GG) (nL : Nat) (Q : State → Prop) (cells slots z : Nat) (K N : Nat → Nat) (I : MI) (R : MR) (pc : Nat) (lv : List (Nat × Value)) (st : List Value) : Prop :=
  ∀ (H : Heap) (locs : List Loc) (ls : Array Slot), Wh G z K N I R H → (∀ q ∈ locs, G.2.2.size ≤ q.base) → lv_has ls nL lv → lvd lv = true → W p l e Rm s m args below meth c H locs cells slots Q (F0 m pc ls st)
section ZR
variable {p : Program} {l : Launch} {e : Env} {Rm : Room} {s : State} {m : MethodId} {args : Array Value} {below : List Frame} {meth : Method} {c : Code} {G : GG} {cc : ByteArray} {nL : Nat} {own : String} {ret : Option FieldType}
variable {Q : State → Prop} {cells slots z : Nat} {K N : Nat → Nat} {I : MI} {R : MR} {pc : Nat} {lv : List (Nat × Value)} {st : List Value}

theorem z_iconst (C : Cx p l e Rm s m args below meth c G cc nL own ret) {n : Int} (d : decode cc pc = .ok (.iconst n, 1))
    (k : Zq p l e Rm s m args below meth c G nL Q cells slots z K N I R (pc + 1) lv (.int (zI n) :: st)) : Zq p l e Rm s m args below meth c G nL Q cells slots z K N I R pc lv st :=
  fun H locs ls hW hL hl hd => lv_iconst C.1 C.2.1 d rfl (k H locs ls hW hL hl hd)
theorem zI_8 : ∀ n : Fin 256, (Int8.ofInt ((n.val : Int) - 128)).toInt32 = zI ((n.val : Int) - 128) := by decide +kernel
theorem zI_i8 {n : Int} (h : -128 ≤ n ∧ n < 128) : (Int8.ofInt n).toInt32 = zI n := by
  have h1 := zI_8 ⟨(n + 128).toNat, by omega⟩
  simp only at h1
  rwa [show (((n + 128).toNat : Nat) : Int) - 128 = n by omega] at h1
theorem zI_i16 {n : Int} (h : -32768 ≤ n ∧ n < 32768) : (Int16.ofInt n).toInt32 = zI n := by
  apply Int32.toInt_inj.mp
  rw [zI_int ⟨by omega, by omega⟩, Int16.toInt_toInt32]
  exact Int16.toInt_ofInt_of_le (by simpa using h.1) (by simpa using h.2)
theorem z_bipush (C : Cx p l e Rm s m args below meth c G cc nL own ret) {n : Int} (d : decode cc pc = .ok (.bipush n, 2)) (hn : -128 ≤ n ∧ n < 128)
    (k : Zq p l e Rm s m args below meth c G nL Q cells slots z K N I R (pc + 2) lv (.int (zI n) :: st)) : Zq p l e Rm s m args below meth c G nL Q cells slots z K N I R pc lv st :=
  fun H locs ls hW hL hl hd => lv_bipush C.1 C.2.1 d (zI_i8 hn) (k H locs ls hW hL hl hd)
theorem z_sipush (C : Cx p l e Rm s m args below meth c G cc nL own ret) {n : Int} (d : decode cc pc = .ok (.sipush n, 3)) (hn : -32768 ≤ n ∧ n < 32768)
    (k : Zq p l e Rm s m args below meth c G nL Q cells slots z K N I R (pc + 3) lv (.int (zI n) :: st)) : Zq p l e Rm s m args below meth c G nL Q cells slots z K N I R pc lv st :=
  fun H locs ls hW hL hl hd => lv_sipush C.1 C.2.1 d (zI_i16 hn) (k H locs ls hW hL hl hd)
theorem z_ldc (C : Cx p l e Rm s m args below meth c G cc nL own ret) {i : Nat} {n : Int} (d : decode cc pc = .ok (.ldc i, 2)) (hw : Cond.constant own i (zI n) ∈ wsL_law)
    (k : Zq p l e Rm s m args below meth c G nL Q cells slots z K N I R (pc + 2) lv (.int (zI n) :: st)) : Zq p l e Rm s m args below meth c G nL Q cells slots z K N I R pc lv st :=
  fun H locs ls hW hL hl hd => lv_ldc C.1 C.2.1 C.2.2.2.1 (C.2.2.2.2.1 _ hw) d (k H locs ls hW hL hl hd)
theorem z_iload_n (C : Cx p l e Rm s m args below meth c G cc nL own ret) {j : Fin 4} {x : Int32} (d : decode cc pc = .ok (.iload_n j, 1)) (h : lvg lv j = some (.int x))
    (k : Zq p l e Rm s m args below meth c G nL Q cells slots z K N I R (pc + 1) lv (.int x :: st)) : Zq p l e Rm s m args below meth c G nL Q cells slots z K N I R pc lv st :=
  fun H locs ls hW hL hl hd => lv_iload_n C.1 C.2.1 d rfl (lvg_at hl h) (k H locs ls hW hL hl hd)
theorem z_iload (C : Cx p l e Rm s m args below meth c G cc nL own ret) {j : Nat} {x : Int32} (d : decode cc pc = .ok (.iload j, 2)) (h : lvg lv j = some (.int x))
    (k : Zq p l e Rm s m args below meth c G nL Q cells slots z K N I R (pc + 2) lv (.int x :: st)) : Zq p l e Rm s m args below meth c G nL Q cells slots z K N I R pc lv st :=
  fun H locs ls hW hL hl hd => lv_iload C.1 C.2.1 d (lvg_at hl h) (k H locs ls hW hL hl hd)
theorem z_lload_n (C : Cx p l e Rm s m args below meth c G cc nL own ret) {j : Fin 4} {x : Int64} (d : decode cc pc = .ok (.lload_n j, 1)) (h : lvg lv j = some (.long x))
    (k : Zq p l e Rm s m args below meth c G nL Q cells slots z K N I R (pc + 1) lv (.long x :: st)) : Zq p l e Rm s m args below meth c G nL Q cells slots z K N I R pc lv st :=
  fun H locs ls hW hL hl hd => lv_lload_n C.1 C.2.1 d rfl (lvg_at hl h) (k H locs ls hW hL hl hd)
theorem z_lload (C : Cx p l e Rm s m args below meth c G cc nL own ret) {j : Nat} {x : Int64} (d : decode cc pc = .ok (.lload j, 2)) (h : lvg lv j = some (.long x))
    (k : Zq p l e Rm s m args below meth c G nL Q cells slots z K N I R (pc + 2) lv (.long x :: st)) : Zq p l e Rm s m args below meth c G nL Q cells slots z K N I R pc lv st :=
  fun H locs ls hW hL hl hd => lv_lload C.1 C.2.1 d (lvg_at hl h) (k H locs ls hW hL hl hd)
theorem z_aload_n (C : Cx p l e Rm s m args below meth c G cc nL own ret) {j : Fin 4} {x : Nat} (d : decode cc pc = .ok (.aload_n j, 1)) (h : lvg lv j = some (.ref x))
    (k : Zq p l e Rm s m args below meth c G nL Q cells slots z K N I R (pc + 1) lv (.ref x :: st)) : Zq p l e Rm s m args below meth c G nL Q cells slots z K N I R pc lv st :=
  fun H locs ls hW hL hl hd => lv_aload_n C.1 C.2.1 d rfl (lvg_at hl h) (k H locs ls hW hL hl hd)
theorem z_aload (C : Cx p l e Rm s m args below meth c G cc nL own ret) {j : Nat} {x : Nat} (d : decode cc pc = .ok (.aload j, 2)) (h : lvg lv j = some (.ref x))
    (k : Zq p l e Rm s m args below meth c G nL Q cells slots z K N I R (pc + 2) lv (.ref x :: st)) : Zq p l e Rm s m args below meth c G nL Q cells slots z K N I R pc lv st :=
  fun H locs ls hW hL hl hd => lv_aload C.1 C.2.1 d (lvg_at hl h) (k H locs ls hW hL hl hd)
theorem lvs_d : ∀ (lv : List (Nat × Value)) (i : Nat) (v : Value), lvd lv = true → lvd (lvs lv i v) = true
  | [], _, _, _ => rfl
  | (j, u) :: r, i, v, h => by
    unfold lvd at h
    rw [Bool.and_eq_true] at h
    unfold lvs
    cases hb : Nat.beq j i with
    | true =>
      have e := Nat.eq_of_beq_eq_true hb
      subst e
      show lvd ((j, v) :: r) = true
      unfold lvd
      rw [Bool.and_eq_true]
      exact h
    | false =>
      show lvd ((j, u) :: lvs r i v) = true
      unfold lvd
      rw [Bool.and_eq_true]
      refine ⟨List.all_eq_true.mpr fun q hq => ?_, lvs_d r i v h.2⟩
      rcases lvs_mem r i v q h.2 hq with e | ⟨h1, -⟩
      · rw [e]
        show (!(Nat.beq i j)) = true
        cases hc : Nat.beq i j with
        | true =>
          have e2 := Nat.eq_of_beq_eq_true hc
          rw [e2, Nat.beq_refl] at hb
          cases hb
        | false => rfl
      · exact List.all_eq_true.mp h.1 q h1
theorem z_istore_n (C : Cx p l e Rm s m args below meth c G cc nL own ret) {j : Fin 4} {x : Int32} (d : decode cc pc = .ok (.istore_n j, 1)) (hn : (j : Nat) < nL) (ho : lvo lv j = true)
    (k : Zq p l e Rm s m args below meth c G nL Q cells slots z K N I R (pc + 1) (lvs lv j (.int x)) st) : Zq p l e Rm s m args below meth c G nL Q cells slots z K N I R pc lv (.int x :: st) :=
  fun H locs ls hW hL hl hd => lv_istore_n C.1 C.2.1 d rfl hl hn rfl (fun ls1 h1 => k H locs ls1 hW hL (lvs_has hd ho h1) (lvs_d _ _ _ hd))
theorem z_istore (C : Cx p l e Rm s m args below meth c G cc nL own ret) {j : Nat} {x : Int32} (d : decode cc pc = .ok (.istore j, 2)) (hn : j < nL) (ho : lvo lv j = true)
    (k : Zq p l e Rm s m args below meth c G nL Q cells slots z K N I R (pc + 2) (lvs lv j (.int x)) st) : Zq p l e Rm s m args below meth c G nL Q cells slots z K N I R pc lv (.int x :: st) :=
  fun H locs ls hW hL hl hd => lv_istore C.1 C.2.1 d hl hn rfl (fun ls1 h1 => k H locs ls1 hW hL (lvs_has hd ho h1) (lvs_d _ _ _ hd))
theorem z_astore_n (C : Cx p l e Rm s m args below meth c G cc nL own ret) {j : Fin 4} {x : Nat} (d : decode cc pc = .ok (.astore_n j, 1)) (hn : (j : Nat) < nL) (ho : lvo lv j = true)
    (k : Zq p l e Rm s m args below meth c G nL Q cells slots z K N I R (pc + 1) (lvs lv j (.ref x)) st) : Zq p l e Rm s m args below meth c G nL Q cells slots z K N I R pc lv (.ref x :: st) :=
  fun H locs ls hW hL hl hd => lv_astore_n C.1 C.2.1 d rfl hl hn rfl (fun ls1 h1 => k H locs ls1 hW hL (lvs_has hd ho h1) (lvs_d _ _ _ hd))
theorem z_astore (C : Cx p l e Rm s m args below meth c G cc nL own ret) {j : Nat} {x : Nat} (d : decode cc pc = .ok (.astore j, 2)) (hn : j < nL) (ho : lvo lv j = true)
    (k : Zq p l e Rm s m args below meth c G nL Q cells slots z K N I R (pc + 2) (lvs lv j (.ref x)) st) : Zq p l e Rm s m args below meth c G nL Q cells slots z K N I R pc lv (.ref x :: st) :=
  fun H locs ls hW hL hl hd => lv_astore C.1 C.2.1 d hl hn rfl (fun ls1 h1 => k H locs ls1 hW hL (lvs_has hd ho h1) (lvs_d _ _ _ hd))
theorem lvg_pos : ∀ (lv : List (Nat × Value)) (i : Nat) (v : Value), lvg lv i = some v → ∃ k : Nat, lv[k]? = some (i, v) := fun lv i v h => by
  obtain ⟨k, hk⟩ := List.getElem?_of_mem (lvg_mem lv i v h)
  exact ⟨k, hk⟩
theorem z_iinc (C : Cx p l e Rm s m args below meth c G cc nL own ret) {j : Nat} {n x : Int} (d : decode cc pc = .ok (.iinc j n, 3)) (h : lvg lv j = some (.int (zI x))) (hn : j < nL) (ho : lvo lv j = true)
    (k : Zq p l e Rm s m args below meth c G nL Q cells slots z K N I R (pc + 3) (lvs lv j (.int (zI (x + n)))) st) : Zq p l e Rm s m args below meth c G nL Q cells slots z K N I R pc lv st := fun H locs ls hW hL hl hd => by
  obtain ⟨q, hq⟩ := lvg_pos lv j _ h
  exact lv_iinc (v := zI (x + n)) C.1 C.2.1 d hl hq (zI_add x n) hn rfl (fun ls1 h1 => k H locs ls1 hW hL (lvs_has hd ho h1) (lvs_d _ _ _ hd))
theorem z_iadd (C : Cx p l e Rm s m args below meth c G cc nL own ret) {a b : Int} (d : decode cc pc = .ok (.iadd, 1)) (k : Zq p l e Rm s m args below meth c G nL Q cells slots z K N I R (pc + 1) lv (.int (zI (a + b)) :: st)) : Zq p l e Rm s m args below meth c G nL Q cells slots z K N I R pc lv (.int (zI b) :: .int (zI a) :: st) := fun H locs ls hW hL hl hd =>
  lv_iadd C.1 C.2.1 d (by rw [zI_add]; exact k H locs ls hW hL hl hd)
theorem z_isub (C : Cx p l e Rm s m args below meth c G cc nL own ret) {a b : Int} (d : decode cc pc = .ok (.isub, 1)) (k : Zq p l e Rm s m args below meth c G nL Q cells slots z K N I R (pc + 1) lv (.int (zI (a - b)) :: st)) : Zq p l e Rm s m args below meth c G nL Q cells slots z K N I R pc lv (.int (zI b) :: .int (zI a) :: st) := fun H locs ls hW hL hl hd =>
  lv_isub C.1 C.2.1 d (by rw [zI_sub]; exact k H locs ls hW hL hl hd)
theorem z_imul (C : Cx p l e Rm s m args below meth c G cc nL own ret) {a b : Int} (d : decode cc pc = .ok (.imul, 1)) (k : Zq p l e Rm s m args below meth c G nL Q cells slots z K N I R (pc + 1) lv (.int (zI (a * b)) :: st)) : Zq p l e Rm s m args below meth c G nL Q cells slots z K N I R pc lv (.int (zI b) :: .int (zI a) :: st) := fun H locs ls hW hL hl hd =>
  lv_imul C.1 C.2.1 d (by rw [zI_mul]; exact k H locs ls hW hL hl hd)
theorem z_ineg (C : Cx p l e Rm s m args below meth c G cc nL own ret) {a : Int} (d : decode cc pc = .ok (.ineg, 1)) (k : Zq p l e Rm s m args below meth c G nL Q cells slots z K N I R (pc + 1) lv (.int (zI (-a)) :: st)) : Zq p l e Rm s m args below meth c G nL Q cells slots z K N I R pc lv (.int (zI a) :: st) := fun H locs ls hW hL hl hd =>
  lv_ineg C.1 C.2.1 d (by rw [zI_neg]; exact k H locs ls hW hL hl hd)
theorem z_idiv (C : Cx p l e Rm s m args below meth c G cc nL own ret) {a b : Int} (d : decode cc pc = .ok (.idiv, 1)) (ha : 0 ≤ a ∧ a < 2147483648) (hb : 0 < b ∧ b < 2147483648) (k : Zq p l e Rm s m args below meth c G nL Q cells slots z K N I R (pc + 1) lv (.int (zI (a / b)) :: st)) : Zq p l e Rm s m args below meth c G nL Q cells slots z K N I R pc lv (.int (zI b) :: .int (zI a) :: st) := fun H locs ls hW hL hl hd =>
  lv_idiv C.1 C.2.1 d (by rw [zI_0, zI_eq ⟨by omega, hb.2⟩ ⟨by omega, by omega⟩]; omega) (by rw [zI_div ha hb]; exact k H locs ls hW hL hl hd)
theorem z_irem (C : Cx p l e Rm s m args below meth c G cc nL own ret) {a b : Int} (d : decode cc pc = .ok (.irem, 1)) (ha : 0 ≤ a ∧ a < 2147483648) (hb : 0 < b ∧ b < 2147483648) (k : Zq p l e Rm s m args below meth c G nL Q cells slots z K N I R (pc + 1) lv (.int (zI (a % b)) :: st)) : Zq p l e Rm s m args below meth c G nL Q cells slots z K N I R pc lv (.int (zI b) :: .int (zI a) :: st) := fun H locs ls hW hL hl hd =>
  lv_irem C.1 C.2.1 d (by rw [zI_0, zI_eq ⟨by omega, hb.2⟩ ⟨by omega, by omega⟩]; omega) (by rw [zI_rem ha hb]; exact k H locs ls hW hL hl hd)
theorem z_iand (C : Cx p l e Rm s m args below meth c G cc nL own ret) {x y v : Int32} (d : decode cc pc = .ok (.iand, 1)) (hv : x &&& y = v) (k : Zq p l e Rm s m args below meth c G nL Q cells slots z K N I R (pc + 1) lv (.int v :: st)) : Zq p l e Rm s m args below meth c G nL Q cells slots z K N I R pc lv (.int y :: .int x :: st) := fun H locs ls hW hL hl hd =>
  lv_iand C.1 C.2.1 d (by rw [hv]; exact k H locs ls hW hL hl hd)
theorem z_ior (C : Cx p l e Rm s m args below meth c G cc nL own ret) {x y v : Int32} (d : decode cc pc = .ok (.ior, 1)) (hv : x ||| y = v) (k : Zq p l e Rm s m args below meth c G nL Q cells slots z K N I R (pc + 1) lv (.int v :: st)) : Zq p l e Rm s m args below meth c G nL Q cells slots z K N I R pc lv (.int y :: .int x :: st) := fun H locs ls hW hL hl hd =>
  lv_ior C.1 C.2.1 d (by rw [hv]; exact k H locs ls hW hL hl hd)
theorem z_ixor (C : Cx p l e Rm s m args below meth c G cc nL own ret) {x y v : Int32} (d : decode cc pc = .ok (.ixor, 1)) (hv : x ^^^ y = v) (k : Zq p l e Rm s m args below meth c G nL Q cells slots z K N I R (pc + 1) lv (.int v :: st)) : Zq p l e Rm s m args below meth c G nL Q cells slots z K N I R pc lv (.int y :: .int x :: st) := fun H locs ls hW hL hl hd =>
  lv_ixor C.1 C.2.1 d (by rw [hv]; exact k H locs ls hW hL hl hd)
theorem z_ishl (C : Cx p l e Rm s m args below meth c G cc nL own ret) {x y v : Int32} (d : decode cc pc = .ok (.ishl, 1)) (hv : x <<< (y &&& 31) = v) (k : Zq p l e Rm s m args below meth c G nL Q cells slots z K N I R (pc + 1) lv (.int v :: st)) : Zq p l e Rm s m args below meth c G nL Q cells slots z K N I R pc lv (.int y :: .int x :: st) := fun H locs ls hW hL hl hd =>
  lv_ishl C.1 C.2.1 d (by rw [hv]; exact k H locs ls hW hL hl hd)
theorem z_ishr (C : Cx p l e Rm s m args below meth c G cc nL own ret) {x y v : Int32} (d : decode cc pc = .ok (.ishr, 1)) (hv : x >>> (y &&& 31) = v) (k : Zq p l e Rm s m args below meth c G nL Q cells slots z K N I R (pc + 1) lv (.int v :: st)) : Zq p l e Rm s m args below meth c G nL Q cells slots z K N I R pc lv (.int y :: .int x :: st) := fun H locs ls hW hL hl hd =>
  lv_ishr C.1 C.2.1 d (by rw [hv]; exact k H locs ls hW hL hl hd)
theorem z_iushr (C : Cx p l e Rm s m args below meth c G cc nL own ret) {x y v : Int32} (d : decode cc pc = .ok (.iushr, 1)) (hv : (x.toUInt32 >>> (y.toUInt32 &&& Int32.toUInt32 31)).toInt32 = v) (k : Zq p l e Rm s m args below meth c G nL Q cells slots z K N I R (pc + 1) lv (.int v :: st)) : Zq p l e Rm s m args below meth c G nL Q cells slots z K N I R pc lv (.int y :: .int x :: st) := fun H locs ls hW hL hl hd =>
  lv_iushr C.1 C.2.1 d hv (k H locs ls hW hL hl hd)
theorem z_top {x y : Value} (h : x = y) (k : Zq p l e Rm s m args below meth c G nL Q cells slots z K N I R pc lv (y :: st)) : Zq p l e Rm s m args below meth c G nL Q cells slots z K N I R pc lv (x :: st) := h ▸ k
theorem z_mem {I' : MI} {R' : MR} (h : I = I') (h2 : R = R') (k : Zq p l e Rm s m args below meth c G nL Q cells slots z K N I' R' pc lv st) : Zq p l e Rm s m args below meth c G nL Q cells slots z K N I R pc lv st := h ▸ h2 ▸ k
theorem z_dup (C : Cx p l e Rm s m args below meth c G cc nL own ret) {v : Value} (d : decode cc pc = .ok (.dup, 1)) (hv : v.category = 1)
    (k : Zq p l e Rm s m args below meth c G nL Q cells slots z K N I R (pc + 1) lv (v :: v :: st)) : Zq p l e Rm s m args below meth c G nL Q cells slots z K N I R pc lv (v :: st) :=
  fun H locs ls hW hL hl hd => lv_dup C.1 C.2.1 d hv (k H locs ls hW hL hl hd)
theorem z_pop (C : Cx p l e Rm s m args below meth c G cc nL own ret) {v : Value} (d : decode cc pc = .ok (.pop, 1)) (hv : v.category = 1)
    (k : Zq p l e Rm s m args below meth c G nL Q cells slots z K N I R (pc + 1) lv st) : Zq p l e Rm s m args below meth c G nL Q cells slots z K N I R pc lv (v :: st) :=
  fun H locs ls hW hL hl hd => lv_pop C.1 C.2.1 d hv (k H locs ls hW hL hl hd)
theorem z_dup2 (C : Cx p l e Rm s m args below meth c G cc nL own ret) {u v : Value} (d : decode cc pc = .ok (.dup2, 1)) (hu : u.category = 1) (hv : v.category = 1)
    (k : Zq p l e Rm s m args below meth c G nL Q cells slots z K N I R (pc + 1) lv (u :: v :: u :: v :: st)) : Zq p l e Rm s m args below meth c G nL Q cells slots z K N I R pc lv (u :: v :: st) :=
  fun H locs ls hW hL hl hd => lv_dup2_11 C.1 C.2.1 d hu hv (k H locs ls hW hL hl hd)
theorem z_dup_x1 (C : Cx p l e Rm s m args below meth c G cc nL own ret) {u v : Value} (d : decode cc pc = .ok (.dup_x1, 1)) (hu : u.category = 1) (hv : v.category = 1)
    (k : Zq p l e Rm s m args below meth c G nL Q cells slots z K N I R (pc + 1) lv (u :: v :: u :: st)) : Zq p l e Rm s m args below meth c G nL Q cells slots z K N I R pc lv (u :: v :: st) :=
  fun H locs ls hW hL hl hd => lv_dup_x1 C.1 C.2.1 d hu hv (k H locs ls hW hL hl hd)
theorem z_dup_x2 (C : Cx p l e Rm s m args below meth c G cc nL own ret) {u v v2 : Value} (d : decode cc pc = .ok (.dup_x2, 1)) (hu : u.category = 1) (hv : v.category = 1) (hv2 : v2.category = 1)
    (k : Zq p l e Rm s m args below meth c G nL Q cells slots z K N I R (pc + 1) lv (u :: v :: v2 :: u :: st)) : Zq p l e Rm s m args below meth c G nL Q cells slots z K N I R pc lv (u :: v :: v2 :: st) :=
  fun H locs ls hW hL hl hd => lv_dup_x2 C.1 C.2.1 d hu hv hv2 (k H locs ls hW hL hl hd)
theorem z_null (C : Cx p l e Rm s m args below meth c G cc nL own ret) (d : decode cc pc = .ok (.aconst_null, 1))
    (k : Zq p l e Rm s m args below meth c G nL Q cells slots z K N I R (pc + 1) lv (.null :: st)) : Zq p l e Rm s m args below meth c G nL Q cells slots z K N I R pc lv st :=
  fun H locs ls hW hL hl hd => lv_null C.1 C.2.1 d (k H locs ls hW hL hl hd)
theorem z_goto (C : Cx p l e Rm s m args below meth c G cc nL own ret) {off : Int} {tgt : Nat} (d : decode cc pc = .ok (.goto off, 3)) (ht : (pc : Int) + off = (tgt : Int))
    (k : Zq p l e Rm s m args below meth c G nL Q cells slots z K N I R tgt lv st) : Zq p l e Rm s m args below meth c G nL Q cells slots z K N I R pc lv st :=
  fun H locs ls hW hL hl hd => lv_goto C.1 C.2.1 d ht (k H locs ls hW hL hl hd)
theorem z_icmp_eq (C : Cx p l e Rm s m args below meth c G cc nL own ret) {a b off : Int} {tgt : Nat} (d : decode cc pc = .ok (.if_icmp .eq off, 3)) (ht : (pc : Int) + off = (tgt : Int)) (ha : -2147483648 ≤ a ∧ a < 2147483648) (hb : -2147483648 ≤ b ∧ b < 2147483648)
    (kt : a = b → Zq p l e Rm s m args below meth c G nL Q cells slots z K N I R tgt lv st) (kf : ¬ a = b → Zq p l e Rm s m args below meth c G nL Q cells slots z K N I R (pc + 3) lv st) : Zq p l e Rm s m args below meth c G nL Q cells slots z K N I R pc lv (.int (zI b) :: .int (zI a) :: st) := fun H locs ls hW hL hl hd =>
  lv_icmp_eq C.1 C.2.1 d ht (fun q => kt ((zI_eq ha hb).mp q) H locs ls hW hL hl hd) (fun q => kf (fun z => q ((zI_eq ha hb).mpr z)) H locs ls hW hL hl hd)
theorem z_if_eq (C : Cx p l e Rm s m args below meth c G cc nL own ret) {a off : Int} {tgt : Nat} (d : decode cc pc = .ok (.ifCond .eq off, 3)) (ht : (pc : Int) + off = (tgt : Int)) (ha : -2147483648 ≤ a ∧ a < 2147483648)
    (kt : a = 0 → Zq p l e Rm s m args below meth c G nL Q cells slots z K N I R tgt lv st) (kf : ¬ a = 0 → Zq p l e Rm s m args below meth c G nL Q cells slots z K N I R (pc + 3) lv st) : Zq p l e Rm s m args below meth c G nL Q cells slots z K N I R pc lv (.int (zI a) :: st) := fun H locs ls hW hL hl hd => by
  have hb : -2147483648 ≤ (0 : Int) ∧ (0 : Int) < 2147483648 := ⟨by omega, by omega⟩
  exact lv_if_eq C.1 C.2.1 d ht (fun q => kt ((zI_eq ha hb).mp (zI_0 ▸ q)) H locs ls hW hL hl hd) (fun q => kf (fun z => q (zI_0 ▸ (zI_eq ha hb).mpr z)) H locs ls hW hL hl hd)
theorem z_icmp_ne (C : Cx p l e Rm s m args below meth c G cc nL own ret) {a b off : Int} {tgt : Nat} (d : decode cc pc = .ok (.if_icmp .ne off, 3)) (ht : (pc : Int) + off = (tgt : Int)) (ha : -2147483648 ≤ a ∧ a < 2147483648) (hb : -2147483648 ≤ b ∧ b < 2147483648)
    (kt : ¬ a = b → Zq p l e Rm s m args below meth c G nL Q cells slots z K N I R tgt lv st) (kf : a = b → Zq p l e Rm s m args below meth c G nL Q cells slots z K N I R (pc + 3) lv st) : Zq p l e Rm s m args below meth c G nL Q cells slots z K N I R pc lv (.int (zI b) :: .int (zI a) :: st) := fun H locs ls hW hL hl hd =>
  lv_icmp_ne C.1 C.2.1 d ht (fun q => kt (fun z => q ((zI_eq ha hb).mpr z)) H locs ls hW hL hl hd) (fun q => kf ((zI_eq ha hb).mp q) H locs ls hW hL hl hd)
theorem z_if_ne (C : Cx p l e Rm s m args below meth c G cc nL own ret) {a off : Int} {tgt : Nat} (d : decode cc pc = .ok (.ifCond .ne off, 3)) (ht : (pc : Int) + off = (tgt : Int)) (ha : -2147483648 ≤ a ∧ a < 2147483648)
    (kt : ¬ a = 0 → Zq p l e Rm s m args below meth c G nL Q cells slots z K N I R tgt lv st) (kf : a = 0 → Zq p l e Rm s m args below meth c G nL Q cells slots z K N I R (pc + 3) lv st) : Zq p l e Rm s m args below meth c G nL Q cells slots z K N I R pc lv (.int (zI a) :: st) := fun H locs ls hW hL hl hd => by
  have hb : -2147483648 ≤ (0 : Int) ∧ (0 : Int) < 2147483648 := ⟨by omega, by omega⟩
  exact lv_if_ne C.1 C.2.1 d ht (fun q => kt (fun z => q (zI_0 ▸ (zI_eq ha hb).mpr z)) H locs ls hW hL hl hd) (fun q => kf ((zI_eq ha hb).mp (zI_0 ▸ q)) H locs ls hW hL hl hd)
theorem z_icmp_lt (C : Cx p l e Rm s m args below meth c G cc nL own ret) {a b off : Int} {tgt : Nat} (d : decode cc pc = .ok (.if_icmp .lt off, 3)) (ht : (pc : Int) + off = (tgt : Int)) (ha : -2147483648 ≤ a ∧ a < 2147483648) (hb : -2147483648 ≤ b ∧ b < 2147483648)
    (kt : a < b → Zq p l e Rm s m args below meth c G nL Q cells slots z K N I R tgt lv st) (kf : ¬ a < b → Zq p l e Rm s m args below meth c G nL Q cells slots z K N I R (pc + 3) lv st) : Zq p l e Rm s m args below meth c G nL Q cells slots z K N I R pc lv (.int (zI b) :: .int (zI a) :: st) := fun H locs ls hW hL hl hd =>
  lv_icmp_lt C.1 C.2.1 d ht (fun q => kt ((zI_lt ha hb).mp q) H locs ls hW hL hl hd) (fun q => kf (fun z => q ((zI_lt ha hb).mpr z)) H locs ls hW hL hl hd)
theorem z_if_lt (C : Cx p l e Rm s m args below meth c G cc nL own ret) {a off : Int} {tgt : Nat} (d : decode cc pc = .ok (.ifCond .lt off, 3)) (ht : (pc : Int) + off = (tgt : Int)) (ha : -2147483648 ≤ a ∧ a < 2147483648)
    (kt : a < 0 → Zq p l e Rm s m args below meth c G nL Q cells slots z K N I R tgt lv st) (kf : ¬ a < 0 → Zq p l e Rm s m args below meth c G nL Q cells slots z K N I R (pc + 3) lv st) : Zq p l e Rm s m args below meth c G nL Q cells slots z K N I R pc lv (.int (zI a) :: st) := fun H locs ls hW hL hl hd => by
  have hb : -2147483648 ≤ (0 : Int) ∧ (0 : Int) < 2147483648 := ⟨by omega, by omega⟩
  exact lv_if_lt C.1 C.2.1 d ht (fun q => kt ((zI_lt ha hb).mp (zI_0 ▸ q)) H locs ls hW hL hl hd) (fun q => kf (fun z => q (zI_0 ▸ (zI_lt ha hb).mpr z)) H locs ls hW hL hl hd)
theorem z_icmp_ge (C : Cx p l e Rm s m args below meth c G cc nL own ret) {a b off : Int} {tgt : Nat} (d : decode cc pc = .ok (.if_icmp .ge off, 3)) (ht : (pc : Int) + off = (tgt : Int)) (ha : -2147483648 ≤ a ∧ a < 2147483648) (hb : -2147483648 ≤ b ∧ b < 2147483648)
    (kt : b ≤ a → Zq p l e Rm s m args below meth c G nL Q cells slots z K N I R tgt lv st) (kf : ¬ b ≤ a → Zq p l e Rm s m args below meth c G nL Q cells slots z K N I R (pc + 3) lv st) : Zq p l e Rm s m args below meth c G nL Q cells slots z K N I R pc lv (.int (zI b) :: .int (zI a) :: st) := fun H locs ls hW hL hl hd =>
  lv_icmp_ge C.1 C.2.1 d ht (fun q => kt ((zI_le hb ha).mp q) H locs ls hW hL hl hd) (fun q => kf (fun z => q ((zI_le hb ha).mpr z)) H locs ls hW hL hl hd)
theorem z_if_ge (C : Cx p l e Rm s m args below meth c G cc nL own ret) {a off : Int} {tgt : Nat} (d : decode cc pc = .ok (.ifCond .ge off, 3)) (ht : (pc : Int) + off = (tgt : Int)) (ha : -2147483648 ≤ a ∧ a < 2147483648)
    (kt : 0 ≤ a → Zq p l e Rm s m args below meth c G nL Q cells slots z K N I R tgt lv st) (kf : ¬ 0 ≤ a → Zq p l e Rm s m args below meth c G nL Q cells slots z K N I R (pc + 3) lv st) : Zq p l e Rm s m args below meth c G nL Q cells slots z K N I R pc lv (.int (zI a) :: st) := fun H locs ls hW hL hl hd => by
  have hb : -2147483648 ≤ (0 : Int) ∧ (0 : Int) < 2147483648 := ⟨by omega, by omega⟩
  exact lv_if_ge C.1 C.2.1 d ht (fun q => kt ((zI_le hb ha).mp (zI_0 ▸ q)) H locs ls hW hL hl hd) (fun q => kf (fun z => q (zI_0 ▸ (zI_le hb ha).mpr z)) H locs ls hW hL hl hd)
theorem z_icmp_gt (C : Cx p l e Rm s m args below meth c G cc nL own ret) {a b off : Int} {tgt : Nat} (d : decode cc pc = .ok (.if_icmp .gt off, 3)) (ht : (pc : Int) + off = (tgt : Int)) (ha : -2147483648 ≤ a ∧ a < 2147483648) (hb : -2147483648 ≤ b ∧ b < 2147483648)
    (kt : b < a → Zq p l e Rm s m args below meth c G nL Q cells slots z K N I R tgt lv st) (kf : ¬ b < a → Zq p l e Rm s m args below meth c G nL Q cells slots z K N I R (pc + 3) lv st) : Zq p l e Rm s m args below meth c G nL Q cells slots z K N I R pc lv (.int (zI b) :: .int (zI a) :: st) := fun H locs ls hW hL hl hd =>
  lv_icmp_gt C.1 C.2.1 d ht (fun q => kt ((zI_lt hb ha).mp q) H locs ls hW hL hl hd) (fun q => kf (fun z => q ((zI_lt hb ha).mpr z)) H locs ls hW hL hl hd)
theorem z_if_gt (C : Cx p l e Rm s m args below meth c G cc nL own ret) {a off : Int} {tgt : Nat} (d : decode cc pc = .ok (.ifCond .gt off, 3)) (ht : (pc : Int) + off = (tgt : Int)) (ha : -2147483648 ≤ a ∧ a < 2147483648)
    (kt : 0 < a → Zq p l e Rm s m args below meth c G nL Q cells slots z K N I R tgt lv st) (kf : ¬ 0 < a → Zq p l e Rm s m args below meth c G nL Q cells slots z K N I R (pc + 3) lv st) : Zq p l e Rm s m args below meth c G nL Q cells slots z K N I R pc lv (.int (zI a) :: st) := fun H locs ls hW hL hl hd => by
  have hb : -2147483648 ≤ (0 : Int) ∧ (0 : Int) < 2147483648 := ⟨by omega, by omega⟩
  exact lv_if_gt C.1 C.2.1 d ht (fun q => kt ((zI_lt hb ha).mp (zI_0 ▸ q)) H locs ls hW hL hl hd) (fun q => kf (fun z => q (zI_0 ▸ (zI_lt hb ha).mpr z)) H locs ls hW hL hl hd)
theorem z_icmp_le (C : Cx p l e Rm s m args below meth c G cc nL own ret) {a b off : Int} {tgt : Nat} (d : decode cc pc = .ok (.if_icmp .le off, 3)) (ht : (pc : Int) + off = (tgt : Int)) (ha : -2147483648 ≤ a ∧ a < 2147483648) (hb : -2147483648 ≤ b ∧ b < 2147483648)
    (kt : a ≤ b → Zq p l e Rm s m args below meth c G nL Q cells slots z K N I R tgt lv st) (kf : ¬ a ≤ b → Zq p l e Rm s m args below meth c G nL Q cells slots z K N I R (pc + 3) lv st) : Zq p l e Rm s m args below meth c G nL Q cells slots z K N I R pc lv (.int (zI b) :: .int (zI a) :: st) := fun H locs ls hW hL hl hd =>
  lv_icmp_le C.1 C.2.1 d ht (fun q => kt ((zI_le ha hb).mp q) H locs ls hW hL hl hd) (fun q => kf (fun z => q ((zI_le ha hb).mpr z)) H locs ls hW hL hl hd)
theorem z_if_le (C : Cx p l e Rm s m args below meth c G cc nL own ret) {a off : Int} {tgt : Nat} (d : decode cc pc = .ok (.ifCond .le off, 3)) (ht : (pc : Int) + off = (tgt : Int)) (ha : -2147483648 ≤ a ∧ a < 2147483648)
    (kt : a ≤ 0 → Zq p l e Rm s m args below meth c G nL Q cells slots z K N I R tgt lv st) (kf : ¬ a ≤ 0 → Zq p l e Rm s m args below meth c G nL Q cells slots z K N I R (pc + 3) lv st) : Zq p l e Rm s m args below meth c G nL Q cells slots z K N I R pc lv (.int (zI a) :: st) := fun H locs ls hW hL hl hd => by
  have hb : -2147483648 ≤ (0 : Int) ∧ (0 : Int) < 2147483648 := ⟨by omega, by omega⟩
  exact lv_if_le C.1 C.2.1 d ht (fun q => kt ((zI_le ha hb).mp (zI_0 ▸ q)) H locs ls hW hL hl hd) (fun q => kf (fun z => q (zI_0 ▸ (zI_le ha hb).mpr z)) H locs ls hW hL hl hd)
theorem z_ifnull (C : Cx p l e Rm s m args below meth c G cc nL own ret) {r : Option Nat} {off : Int} {tgt : Nat} (d : decode cc pc = .ok (.ifnull off, 3)) (ht : (pc : Int) + off = (tgt : Int))
    (kt : r = none → Zq p l e Rm s m args below meth c G nL Q cells slots z K N I R tgt lv st) (kf : ∀ x, r = some x → Zq p l e Rm s m args below meth c G nL Q cells slots z K N I R (pc + 3) lv st) : Zq p l e Rm s m args below meth c G nL Q cells slots z K N I R pc lv (va_rf r :: st) := fun H locs ls hW hL hl hd => by
  cases hr : r with
  | none => exact lv_ifnullN C.1 C.2.1 d ht (kt hr H locs ls hW hL hl hd)
  | some x => exact lv_ifnull C.1 C.2.1 d (kf x hr H locs ls hW hL hl hd)
theorem z_ifnonnull (C : Cx p l e Rm s m args below meth c G cc nL own ret) {r : Option Nat} {off : Int} {tgt : Nat} (d : decode cc pc = .ok (.ifnonnull off, 3)) (ht : (pc : Int) + off = (tgt : Int))
    (kt : ∀ x, r = some x → Zq p l e Rm s m args below meth c G nL Q cells slots z K N I R tgt lv st) (kf : r = none → Zq p l e Rm s m args below meth c G nL Q cells slots z K N I R (pc + 3) lv st) : Zq p l e Rm s m args below meth c G nL Q cells slots z K N I R pc lv (va_rf r :: st) := fun H locs ls hW hL hl hd => by
  cases hr : r with
  | none => exact lv_ifnonnullN C.1 C.2.1 d (kf hr H locs ls hW hL hl hd)
  | some x => exact lv_ifnonnull C.1 C.2.1 d ht (kt x hr H locs ls hW hL hl hd)
theorem z_tout (C : Cx p l e Rm s m args below meth c G cc nL own ret) {dflt lo hi a : Int} {offs : Array Int} {len : Nat} {tgt : Nat} (d : decode cc pc = .ok (.tableswitch dflt lo hi offs, len)) (ha : -2147483648 ≤ a ∧ a < 2147483648) (h : a < lo ∨ hi < a) (ht : (pc : Int) + dflt = (tgt : Int))
    (k : Zq p l e Rm s m args below meth c G nL Q cells slots z K N I R tgt lv st) : Zq p l e Rm s m args below meth c G nL Q cells slots z K N I R pc lv (.int (zI a) :: st) := fun H locs ls hW hL hl hd =>
  lv_tableOut C.1 C.2.1 d (by rw [zI_int ha]; exact h) ht (k H locs ls hW hL hl hd)
theorem z_tin (C : Cx p l e Rm s m args below meth c G cc nL own ret) {dflt lo hi a : Int} {offs : Array Int} {len : Nat} {off : Int} {tgt : Nat} (v : Int) (d : decode cc pc = .ok (.tableswitch dflt lo hi offs, len)) (he : a = v) (hv : -2147483648 ≤ v ∧ v < 2147483648) (h1 : lo ≤ v) (h2 : v ≤ hi) (ho : offs[(v - lo).toNat]? = some off) (ht : (pc : Int) + off = (tgt : Int))
    (k : Zq p l e Rm s m args below meth c G nL Q cells slots z K N I R tgt lv st) : Zq p l e Rm s m args below meth c G nL Q cells slots z K N I R pc lv (.int (zI a) :: st) := fun H locs ls hW hL hl hd => by
  subst he
  exact lv_tableIn C.1 C.2.1 d (by rw [zI_int hv]; omega) (by rw [zI_int hv]; omega) (by rw [zI_int hv]; exact ho) ht (k H locs ls hW hL hl hd)
theorem z_look (C : Cx p l e Rm s m args below meth c G cc nL own ret) {dflt a : Int} {ps : Array (Int × Int)} {len : Nat} {off : Int} {tgt : Nat} (d : decode cc pc = .ok (.lookupswitch dflt ps, len)) (hp : (ps.toList.zip (ps.toList.drop 1)).all (fun (a, next) => a.1 < next.1) = true) (ha : -2147483648 ≤ a ∧ a < 2147483648) (ho : Op.lookupswitch.offset ps.toList dflt a = off) (ht : (pc : Int) + off = (tgt : Int))
    (k : Zq p l e Rm s m args below meth c G nL Q cells slots z K N I R tgt lv st) : Zq p l e Rm s m args below meth c G nL Q cells slots z K N I R pc lv (.int (zI a) :: st) := fun H locs ls hW hL hl hd =>
  lv_lookup C.1 C.2.1 d hp (by rw [zI_int ha]; exact ho) ht (k H locs ls hW hL hl hd)
theorem z_get (C : Cx p l e Rm s m args below meth c G cc nL own ret) {i ci k a N0 : Nat} {C0 : String} {T0 : u_T} (hc : vwCl[ci]? = some (C0, T0, N0)) (h8 : ci < 8) (hn : znf ci = N0) (hk : k < N0) (hin : ∀ w ∈ u_ws C0 T0 N0, w ∈ wsL_law) (hlink : Cond.fieldLink own i (T0 k).1 (T0 k).2.1 (T0 k).2.2.1 ∈ wsL_law) (d : decode cc pc = .ok (.getfield i, 3)) (ha : zK G z K a ci)
    (k0 : Zq p l e Rm s m args below meth c G nL Q cells slots z K N I R (pc + 3) lv (zfv (zty ci k) (I a k) (R a k) :: st)) : Zq p l e Rm s m args below meth c G nL Q cells slots z K N I R pc lv (.ref a :: st) := fun H locs ls hW hL hl hd =>
  va_get (ws := [(a, .inr (ci, zfs ci I R a))]) C.1 C.2.1 C.2.2.2.2.1 hin C.2.2.2.1 C.2.2.2.2.2.2.2.1.1 (va_P1 (by rw [← zat_o (ct := G.2.1) (N := N) ha.2.2 h8]; exact hW.2.2.2 a ha.1 ha.2.1)) 0 rfl hc k hk (C.2.2.2.2.1 _ hlink) (fun _ h9 => h9) (zfs_get (by omega)) d (k0 H locs ls hW hL hl hd)
theorem z_gI (C : Cx p l e Rm s m args below meth c G cc nL own ret) {i ci k a N0 : Nat} {C0 : String} {T0 : u_T} (hc : vwCl[ci]? = some (C0, T0, N0)) (h8 : ci < 8) (hn : znf ci = N0) (hk : k < N0) (hin : ∀ w ∈ u_ws C0 T0 N0, w ∈ wsL_law) (hlink : Cond.fieldLink own i (T0 k).1 (T0 k).2.1 (T0 k).2.2.1 ∈ wsL_law) (ht : zty ci k = .int) (d : decode cc pc = .ok (.getfield i, 3)) (ha : zK G z K a ci)
    (k0 : Zq p l e Rm s m args below meth c G nL Q cells slots z K N I R (pc + 3) lv (.int (zI (I a k)) :: st)) : Zq p l e Rm s m args below meth c G nL Q cells slots z K N I R pc lv (.ref a :: st) :=
  z_get C hc h8 hn hk hin hlink d ha (z_top (by rw [ht]; rfl) k0)
theorem zfv_r {ty : FieldType} (h : ¬ ty = .int) (x : Int) (r : Option Nat) : zfv ty x r = va_rf r := by
  cases ty <;> first | rfl | exact absurd rfl h
theorem z_gO (C : Cx p l e Rm s m args below meth c G cc nL own ret) {i ci k a N0 : Nat} {C0 : String} {T0 : u_T} (hc : vwCl[ci]? = some (C0, T0, N0)) (h8 : ci < 8) (hn : znf ci = N0) (hk : k < N0) (hin : ∀ w ∈ u_ws C0 T0 N0, w ∈ wsL_law) (hlink : Cond.fieldLink own i (T0 k).1 (T0 k).2.1 (T0 k).2.2.1 ∈ wsL_law) (ht : ¬ zty ci k = .int) (d : decode cc pc = .ok (.getfield i, 3)) (ha : zK G z K a ci)
    (k0 : Zq p l e Rm s m args below meth c G nL Q cells slots z K N I R (pc + 3) lv (va_rf (R a k) :: st)) : Zq p l e Rm s m args below meth c G nL Q cells slots z K N I R pc lv (.ref a :: st) :=
  z_get C hc h8 hn hk hin hlink d ha (z_top (zfv_r ht _ _) k0)
theorem z_gR (C : Cx p l e Rm s m args below meth c G cc nL own ret) {i ci k a N0 : Nat} {C0 : String} {T0 : u_T} {b : Nat} (hc : vwCl[ci]? = some (C0, T0, N0)) (h8 : ci < 8) (hn : znf ci = N0) (hk : k < N0) (hin : ∀ w ∈ u_ws C0 T0 N0, w ∈ wsL_law) (hlink : Cond.fieldLink own i (T0 k).1 (T0 k).2.1 (T0 k).2.2.1 ∈ wsL_law) (ht : ¬ zty ci k = .int) (d : decode cc pc = .ok (.getfield i, 3)) (ha : zK G z K a ci) (hr : R a k = some b)
    (k0 : Zq p l e Rm s m args below meth c G nL Q cells slots z K N I R (pc + 3) lv (.ref b :: st)) : Zq p l e Rm s m args below meth c G nL Q cells slots z K N I R pc lv (.ref a :: st) :=
  z_get C hc h8 hn hk hin hlink d ha (z_top (by rw [zfv_r ht, hr]; rfl) k0)
theorem zk_put (C : Cx p l e Rm s m args below meth c G cc nL own ret) {i ci k a N0 : Nat} {C0 : String} {T0 : u_T} {H : Heap} {locs : List Loc} {ls : Array Slot} (ty0 : Nat → FieldType) (hty : ∀ k, k < N0 → parseFieldDescriptor (T0 k).2.2.1 = some (ty0 k)) (hnm : ∀ a, a < N0 → ∀ b, b < N0 → a ≠ b → (T0 a).2.1 ≠ (T0 b).2.1) (hin : ∀ w ∈ u_ws C0 T0 N0, w ∈ wsL_law) {fs : List Value} (hat : va_at G.1 vwCl (a, .inr (ci, fs)) H) (hc : vwCl[ci]? = some (C0, T0, N0)) (hk : k < N0) (hlink : Cond.fieldLink own i (T0 k).1 (T0 k).2.1 (T0 k).2.2.1 ∈ wsL_law)
    (hfin : (T0 k).2.2.2 = false ∨ ((T0 k).2.2.2 = true ∧ meth.name = "<init>" ∧ (T0 k).1 = own)) {v : Value} (hn : narrow (ty0 k) v = v) (hfit : fits (ty0 k) v = true) (hl : k < fs.length) (hdg : decode cc pc = .ok (.putfield i, 3))
    (kk : ∀ (H1 : Heap) (l1 : Loc), l1.base = a → va_at G.1 vwCl (a, .inr (ci, fs.set k v)) H1 → H1.size = H.size → (∀ q : Nat, q ≠ a → H1[q]? = H[q]?) → W p l e Rm s m args below meth c H1 (locs ++ [l1]) cells slots Q (F0 m (pc + 3) ls st)) : W p l e Rm s m args below meth c H locs cells slots Q (F0 m pc ls (v :: .ref a :: st)) := by
  obtain ⟨hexec, hb, -, hown, hts, -, -, hWv, -⟩ := C
  have hK := hWv.1
  have hap := va_apart (own := own) hts hin ty0 hty hnm hK hc
  obtain ⟨r, h1, cell, q1, q2, q3, q4⟩ := hat
  have hr : r = (C0, T0, N0) := Option.some.inj (h1.symm.trans hc)
  subst hr
  obtain ⟨hS, hfc, kC, hkC, hkind⟩ := hK.1 ci _ hc
  obtain ⟨cf, kf, fi, f, hi, hsl⟩ := hS k hk
  have hlay := hts _ (hin _ (u_in_lay hk))
  have hst := (u_facts hfc hkC (u_lays hts hin hk) hi).1
  have hd := hty k hk
  rcases hfin with hfin | ⟨hfin, hin2, hdecl⟩
  · unfold u_lay at hlay
    rw [if_neg (by rw [hfin]; decide)] at hlay
    have h6 := u_store hfc hkC hkind hlay hi hd hn hfit
    refine W.putK hexec hb (f := f) ⟨hown, hts _ hlink, ⟨_, _, _, hi⟩, hst⟩ (by rw [q2]; exact h6) q1 q3 (by rw [hsl]; exact k2_hasslot (q4 k hk)) rfl rfl hdg fun H' e1 e2 e3 => ?_
    rw [hsl] at e1 ⊢
    exact kk H' _ rfl ⟨_, hc, t_OB.to (V := updV (vp_V fs) k v) ⟨_, e1, q2, q3, t_set q4 hap hk v⟩ (fun j _ => vp_updV_set hl v j)⟩ e2 e3
  · unfold u_lay at hlay
    rw [if_pos hfin] at hlay
    have hcf : m.cls = cf := by
      obtain ⟨_, _, c', _, _, _, -, -, hf', -, -, -, hown2, -⟩ := Cond.laysFinal_spec hlay
      have e1 : c' = cf := by have := hi.symm.trans hf'; simp at this; exact this.1.symm
      rw [hdecl] at hown2
      rw [← e1]; exact Option.some.inj (hown.symm.trans hown2)
    have h6 := u_fits hfc hkC hkind (Or.inr hlay) hi hd hn hfit
    refine W.putFinK hexec hb hown (hts _ hlink) hi hst hcf hin2 (by rw [q2]; exact h6) q1 q3 (by rw [hsl]; exact k2_hasslot (q4 k hk)) rfl rfl hdg fun H' e1 e2 e3 => ?_
    rw [hsl] at e1 ⊢
    exact kk H' _ rfl ⟨_, hc, t_OB.to (V := updV (vp_V fs) k v) ⟨_, e1, q2, q3, t_set q4 hap hk v⟩ (fun j _ => vp_updV_set hl v j)⟩ e2 e3
theorem zloc {G : GG} {locs : List Loc} {l1 : Loc} {a : Nat} (hL : ∀ q ∈ locs, G.2.2.size ≤ q.base) (e : l1.base = a) (ha : G.2.2.size ≤ a) : ∀ q ∈ locs ++ [l1], G.2.2.size ≤ q.base := fun q hq => by
  rcases List.mem_append.mp hq with h | h
  · exact hL q h
  · rw [List.mem_singleton.mp h, e]; exact ha
theorem z_pI (C : Cx p l e Rm s m args below meth c G cc nL own ret) {i ci k a N0 : Nat} {C0 : String} {T0 : u_T} {v : Int} (hc : vwCl[ci]? = some (C0, T0, N0)) (h8 : ci < 8) (hn : znf ci = N0) (hk : k < N0) (hty : ∀ k, k < N0 → parseFieldDescriptor (T0 k).2.2.1 = some (zty ci k)) (hnm : ∀ a, a < N0 → ∀ b, b < N0 → a ≠ b → (T0 a).2.1 ≠ (T0 b).2.1) (hin : ∀ w ∈ u_ws C0 T0 N0, w ∈ wsL_law) (hlink : Cond.fieldLink own i (T0 k).1 (T0 k).2.1 (T0 k).2.2.1 ∈ wsL_law) (ht : zty ci k = .int)
    (hfin : (T0 k).2.2.2 = false ∨ ((T0 k).2.2.2 = true ∧ meth.name = "<init>" ∧ (T0 k).1 = own)) (d : decode cc pc = .ok (.putfield i, 3)) (ha : zK G z K a ci)
    (k0 : Zq p l e Rm s m args below meth c G nL Q cells slots z K N (u2 I a k v) R (pc + 3) lv st) : Zq p l e Rm s m args below meth c G nL Q cells slots z K N I R pc lv (.int (zI v) :: .ref a :: st) := fun H locs ls hW hL hl hd => by
  refine zk_put C (zty ci) hty hnm hin (fs := zfs ci I R a) (by rw [← zat_o (ct := G.2.1) (N := N) ha.2.2 h8]; exact hW.2.2.2 a ha.1 ha.2.1) hc hk hlink hfin (by rw [ht]; rfl) (by rw [ht]; rfl) (by rw [zfs_len]; omega) d fun H1 l1 e1 e2 e3 e4 => ?_
  refine k0 H1 _ ls (hW.upd ha.1 e3 e4 ?_ fun b hb => ⟨u2_row hb, rfl⟩) (zloc hL e1 ha.1) hl hd
  rw [zat_o ha.2.2 h8, ← zfs_set (I := I) (R := R) (k := k) (v := .int (zI v)) (by omega) (by rw [ht, u2_s]; rfl) (fun j hj => ⟨u2_k hj, rfl⟩)]
  exact e2
theorem z_pR (C : Cx p l e Rm s m args below meth c G cc nL own ret) {i ci k a N0 : Nat} {C0 : String} {T0 : u_T} {r : Option Nat} (hc : vwCl[ci]? = some (C0, T0, N0)) (h8 : ci < 8) (hn : znf ci = N0) (hk : k < N0) (hty : ∀ k, k < N0 → parseFieldDescriptor (T0 k).2.2.1 = some (zty ci k)) (hnm : ∀ a, a < N0 → ∀ b, b < N0 → a ≠ b → (T0 a).2.1 ≠ (T0 b).2.1) (hin : ∀ w ∈ u_ws C0 T0 N0, w ∈ wsL_law) (hlink : Cond.fieldLink own i (T0 k).1 (T0 k).2.1 (T0 k).2.2.1 ∈ wsL_law) (ht : ¬ zty ci k = .int) (hrk : ∀ r : Option Nat, narrow (zty ci k) (va_rf r) = va_rf r ∧ fits (zty ci k) (va_rf r) = true)
    (hfin : (T0 k).2.2.2 = false ∨ ((T0 k).2.2.2 = true ∧ meth.name = "<init>" ∧ (T0 k).1 = own)) (d : decode cc pc = .ok (.putfield i, 3)) (ha : zK G z K a ci)
    (k0 : Zq p l e Rm s m args below meth c G nL Q cells slots z K N I (u2 R a k r) (pc + 3) lv st) : Zq p l e Rm s m args below meth c G nL Q cells slots z K N I R pc lv (va_rf r :: .ref a :: st) := fun H locs ls hW hL hl hd => by
  refine zk_put C (zty ci) hty hnm hin (fs := zfs ci I R a) (by rw [← zat_o (ct := G.2.1) (N := N) ha.2.2 h8]; exact hW.2.2.2 a ha.1 ha.2.1) hc hk hlink hfin (hrk r).1 (hrk r).2 (by rw [zfs_len]; omega) d fun H1 l1 e1 e2 e3 e4 => ?_
  refine k0 H1 _ ls (hW.upd ha.1 e3 e4 ?_ fun b hb => ⟨rfl, u2_row hb⟩) (zloc hL e1 ha.1) hl hd
  rw [zat_o ha.2.2 h8, ← zfs_set (I := I) (R := R) (k := k) (v := va_rf r) (by omega) (by rw [zfv_r ht, u2_s]) (fun j hj => ⟨rfl, u2_k hj⟩)]
  exact e2
theorem zwI {H : Heap} {a : Nat} (hW : Wh G z K N I R H) (ha : zK G z K a 9) : H[a]? = some (vp_cell (G.2.1 1) (N a, .inl (fun j => zI (I a j)))) := by
  have h := hW.2.2.2 a ha.1 ha.2.1
  rw [zat_i ha.2.2] at h
  exact h
theorem zwC {H : Heap} {a : Nat} (hW : Wh G z K N I R H) (ha : zK G z K a 8) : H[a]? = some (vp_cell (G.2.1 0) (N a, .inl (fun j => zI (I a j)))) := by
  have h := hW.2.2.2 a ha.1 ha.2.1
  rw [zat_c ha.2.2] at h
  exact h
theorem z_iald (C : Cx p l e Rm s m args below meth c G cc nL own ret) {a : Nat} {j : Int} (d : decode cc pc = .ok (.iaload, 1)) (ha : zK G z K a 9) (hj : 0 ≤ j ∧ j < (N a : Int)) (hN : N a < 2147483648)
    (k : Zq p l e Rm s m args below meth c G nL Q cells slots z K N I R (pc + 1) lv (.int (zI (I a j.toNat)) :: st)) : Zq p l e Rm s m args below meth c G nL Q cells slots z K N I R pc lv (.int (zI j) :: .ref a :: st) := fun H locs ls hW hL hl hd => by
  obtain ⟨h1, h2⟩ := zI_idx hj.1 hj.2 hN
  refine va_iald (ws := [(a, .inl (G.2.1 1, N a, .inl (fun j => zI (I a j))))]) C.1 C.2.1 C.2.2.2.2.2.2.2.1.1 (va_P1 (zwI hW ha)) 0 1 rfl rfl h1 d ?_
  rw [h2]
  exact k H locs ls hW hL hl hd
theorem z_cald (C : Cx p l e Rm s m args below meth c G cc nL own ret) {a : Nat} {j : Int} (d : decode cc pc = .ok (.caload, 1)) (ha : zK G z K a 8) (hj : 0 ≤ j ∧ j < (N a : Int)) (hN : N a < 2147483648)
    (k : Zq p l e Rm s m args below meth c G nL Q cells slots z K N I R (pc + 1) lv (.int (zI (I a j.toNat)) :: st)) : Zq p l e Rm s m args below meth c G nL Q cells slots z K N I R pc lv (.int (zI j) :: .ref a :: st) := fun H locs ls hW hL hl hd => by
  obtain ⟨h1, h2⟩ := zI_idx hj.1 hj.2 hN
  refine va_cald (ws := [(a, .inl (G.2.1 0, N a, .inl (fun j => zI (I a j))))]) C.1 C.2.1 C.2.2.2.2.2.2.2.1.1 (va_P1 (zwC hW ha)) 0 0 rfl rfl h1 d ?_
  rw [h2]
  exact k H locs ls hW hL hl hd
theorem zupI {I : MI} {a i : Nat} {v : Int} (cA : ClassId) (n : Nat) : (vp_cell cA (n, .inl (fun j => zI (I a j)))).setSlot i (.int (zI v)) = vp_cell cA (n, .inl (fun j => zI (u2 I a i v a j))) := by
  rw [vp_cell_i, vp_cell_i, arrV_store]
  congr 2
  funext q
  by_cases hq : q = i
  · subst hq
    simp [updV, u2_s]
  · simp [updV, hq, u2_k hq]
theorem z_iast (C : Cx p l e Rm s m args below meth c G cc nL own ret) {a : Nat} {j : Int} {v : Int} (d : decode cc pc = .ok (.iastore, 1)) (ha : zK G z K a 9) (hj : 0 ≤ j ∧ j < (N a : Int)) (hN : N a < 2147483648)
    (k : Zq p l e Rm s m args below meth c G nL Q cells slots z K N (u2 I a j.toNat v) R (pc + 1) lv st) : Zq p l e Rm s m args below meth c G nL Q cells slots z K N I R pc lv (.int (zI v) :: .int (zI j) :: .ref a :: st) := fun H locs ls hW hL hl hd => by
  obtain ⟨h1, h2⟩ := zI_idx hj.1 hj.2 hN
  refine W.iast C.1 C.2.1 (zwI hW ha) ((C.2.2.2.2.2.2.2.1.1.2 1 _ rfl).1 (N a) (fun j => .int (zI (I a j)))) (fun q => by cases q) (by show ¬ (zI j < 0 ∨ (arrV _ _ _).slots.size ≤ _); rw [arrV_size]; exact h1) rfl rfl d fun H1 e1 e2 e3 => ?_
  refine k H1 _ ls (hW.upd ha.1 e2 e3 ?_ fun b hb => ⟨u2_row hb, rfl⟩) (zloc hL rfl ha.1) hl hd
  rw [zat_i ha.2.2]
  show H1[a]? = some (vp_cell _ _)
  rw [e1, h2, zupI]
theorem zchar {v : Int} (h : 0 ≤ v ∧ v < 65536) : narrow .char (.int (zI v)) = .int (zI v) := by
  obtain ⟨n, rfl⟩ := Int.eq_ofNat_of_zero_le h.1
  exact (pk_charN (by omega)).1
theorem z_cast (C : Cx p l e Rm s m args below meth c G cc nL own ret) {a : Nat} {j : Int} {v : Int} (d : decode cc pc = .ok (.castore, 1)) (ha : zK G z K a 8) (hj : 0 ≤ j ∧ j < (N a : Int)) (hN : N a < 2147483648) (hv : 0 ≤ v ∧ v < 65536)
    (k : Zq p l e Rm s m args below meth c G nL Q cells slots z K N (u2 I a j.toNat v) R (pc + 1) lv st) : Zq p l e Rm s m args below meth c G nL Q cells slots z K N I R pc lv (.int (zI v) :: .int (zI j) :: .ref a :: st) := fun H locs ls hW hL hl hd => by
  obtain ⟨h1, h2⟩ := zI_idx hj.1 hj.2 hN
  refine W.cast C.1 C.2.1 (zwC hW ha) ((C.2.2.2.2.2.2.2.1.1.2 0 _ rfl).1 (N a) (fun j => .int (zI (I a j)))) (fun q => by cases q) (by show ¬ (zI j < 0 ∨ (arrV _ _ _).slots.size ≤ _); rw [arrV_size]; exact h1) rfl rfl d fun H1 e1 e2 e3 => ?_
  refine k H1 _ ls (hW.upd ha.1 e2 e3 ?_ fun b hb => ⟨u2_row hb, rfl⟩) (zloc hL rfl ha.1) hl hd
  rw [zat_c ha.2.2]
  show H1[a]? = some (vp_cell _ _)
  rw [e1, h2, zchar hv, zupI]
theorem z_alen (C : Cx p l e Rm s m args below meth c G cc nL own ret) {a : Nat} (d : decode cc pc = .ok (.arraylength, 1)) (ha : zK G z K a 9)
    (k : Zq p l e Rm s m args below meth c G nL Q cells slots z K N I R (pc + 1) lv (.int (zI (N a : Int)) :: st)) : Zq p l e Rm s m args below meth c G nL Q cells slots z K N I R pc lv (.ref a :: st) := fun H locs ls hW hL hl hd =>
  va_alen (ws := [(a, .inl (G.2.1 1, N a, .inl (fun j => zI (I a j))))]) C.1 C.2.1 C.2.2.2.2.2.2.2.1.1 (va_P1 (zwI hW ha)) 0 1 rfl rfl (v := zI (N a : Int)) rfl d (k H locs ls hW hL hl hd)
theorem z_aalen (C : Cx p l e Rm s m args below meth c G cc nL own ret) {a : Nat} (d : decode cc pc = .ok (.arraylength, 1)) (ha : zK G z K a 11)
    (k : Zq p l e Rm s m args below meth c G nL Q cells slots z K N I R (pc + 1) lv (.int (zI (N a : Int)) :: st)) : Zq p l e Rm s m args below meth c G nL Q cells slots z K N I R pc lv (.ref a :: st) := fun H locs ls hW hL hl hd =>
  va_alen (ws := [(a, .inl (G.2.1 3, N a, .inr (.inr (.inr (.inr (R a))))))]) C.1 C.2.1 C.2.2.2.2.2.2.2.1.1 (va_P1 (by rw [← zat_t (I := I) (R := R) ha.2.2]; exact hW.2.2.2 a ha.1 ha.2.1)) 0 3 rfl rfl (v := zI (N a : Int)) rfl d (k H locs ls hW hL hl hd)
theorem z_aald (C : Cx p l e Rm s m args below meth c G cc nL own ret) {a : Nat} {j : Int} (kd : Nat) (hkd : kd = 10 ∨ kd = 11) (d : decode cc pc = .ok (.aaload, 1)) (ha : zK G z K a kd) (hj : 0 ≤ j ∧ j < (N a : Int)) (hN : N a < 2147483648)
    (k : Zq p l e Rm s m args below meth c G nL Q cells slots z K N I R (pc + 1) lv (va_rf (R a j.toNat) :: st)) : Zq p l e Rm s m args below meth c G nL Q cells slots z K N I R pc lv (.int (zI j) :: .ref a :: st) := fun H locs ls hW hL hl hd => by
  obtain ⟨h1, h2⟩ := zI_idx hj.1 hj.2 hN
  have hat := hW.2.2.2 a ha.1 ha.2.1
  have k1 := k H locs ls hW hL hl hd
  rw [← h2] at k1
  rcases hkd with e | e
  · subst e
    rw [zat_g ha.2.2] at hat
    exact va_aldq C.1 C.2.1 C.2.2.2.2.2.2.2.1.1 (va_P1 hat) 0 2 rfl rfl h1 d k1
  · subst e
    rw [zat_t ha.2.2] at hat
    exact va_aldq C.1 C.2.1 C.2.2.2.2.2.2.2.1.1 (va_P1 hat) 0 3 rfl rfl h1 d k1
theorem va_up_s {α : Type} (f : Nat → α) (a : Nat) (v : α) : va_up f a v a = v := if_pos rfl
theorem va_up_n {α : Type} {f : Nat → α} {a b : Nat} {v : α} (h : b ≠ a) : va_up f a v b = f b := if_neg h
theorem z_aast (C : Cx p l e Rm s m args below meth c G cc nL own ret) {a : Nat} {j : Int} (kd ci : Nat) {b N0 : Nat} {C0 : String} {T0 : u_T} (hkd : (kd = 10 ∧ C0 = RX1) ∨ (kd = 11 ∧ C0 = RX4)) (h8 : ci < 8) (hc : vwCl[ci]? = some (C0, T0, N0)) (d : decode cc pc = .ok (.aastore, 1)) (ha : zK G z K a kd) (hb : zK G z K b ci) (hj : 0 ≤ j ∧ j < (N a : Int)) (hN : N a < 2147483648)
    (k : Zq p l e Rm s m args below meth c G nL Q cells slots z K N I (u2 R a j.toNat (some b)) (pc + 1) lv st) : Zq p l e Rm s m args below meth c G nL Q cells slots z K N I R pc lv (.ref b :: .int (zI j) :: .ref a :: st) := fun H locs ls hW hL hl hd => by
  obtain ⟨h1, h2⟩ := zI_idx hj.1 hj.2 hN
  have hat := hW.2.2.2 a ha.1 ha.2.1
  have hv := hW.2.2.2 b hb.1 hb.2.1
  rw [zat_o hb.2.2 h8] at hv
  obtain ⟨cA, tk, ht, hz⟩ : ∃ (cA : ClassId) (tk : Nat), (ztys G.2.1)[tk]? = some (cA, .object C0) ∧ ∀ R' : MR, zat G.2.1 K N I R' a = .inl (cA, N a, .inr (.inr (.inr (.inr (R' a))))) := by
    rcases hkd with ⟨e, e2⟩ | ⟨e, e2⟩
    · subst e; subst e2; exact ⟨_, 2, rfl, fun R' => zat_g ha.2.2⟩
    · subst e; subst e2; exact ⟨_, 3, rfl, fun R' => zat_t ha.2.2⟩
  rw [hz] at hat
  have hK := C.2.2.2.2.2.2.2.1.1
  have hlt : (zI j).toNatClampNeg < N a := Nat.not_le.mp fun q => h1 (Or.inr q)
  have h0 : ¬ zI j < 0 := fun q => h1 (Or.inl q)
  obtain ⟨r', hr', cellV, g1, g2, g3, -⟩ := hv
  have hcls := (hK.1 ci _ hc).2
  obtain ⟨kA, comp, k1, k2, k3, -⟩ := (hK.2 tk _ ht).2
  have hcomp : comp = G.1.1 ci := Option.some.inj (k3.symm.trans hcls.1)
  subst hcomp
  obtain ⟨kC, hkC, -⟩ := hcls.2
  refine W.aast C.1 C.2.1 hat (fun q h => by cases h) (fun h => by cases h) k1 k2 rfl hkC ⟨h0, by show _ < (arrV _ _ _).slots.size; rw [arrV_size]; exact hlt⟩ g1 (fun q h => by rw [g3] at h; cases h) (by rw [g2]; exact hkC) (by rw [g2]; exact va_assign hcls) rfl rfl d fun H1 e1 e2 e3 => ?_
  refine k H1 _ ls (hW.upd ha.1 e2 e3 ?_ fun b hb => ⟨rfl, u2_row hb⟩) (zloc hL rfl ha.1) hl hd
  rw [hz]
  show H1[a]? = some (vp_cell _ _)
  rw [e1, h2, vp_cell_q, vp_cell_q, arrV_store]
  congr 2
  funext q
  by_cases hq : q = j.toNat
  · subst hq
    simp [updV, u2_s, va_rf]
  · simp [updV, hq, u2_k hq]
theorem z_new (C : Cx p l e Rm s m args below meth c G cc nL own ret) (ci : Nat) {i N0 : Nat} {C0 : String} {T0 : u_T} (hc : vwCl[ci]? = some (C0, T0, N0)) (h8 : ci < 8) (hn : znf ci = N0) (hty : ∀ k, k < N0 → parseFieldDescriptor (T0 k).2.2.1 = some (zty ci k)) (hdf : ∀ k, k < N0 → defaultValue (zty ci k) = zfv (zty ci k) 0 none) (hin : ∀ w ∈ u_ws C0 T0 N0, w ∈ wsL_law) (hcl : Cond.classLink own i C0 ∈ wsL_law) (hinst : Cond.instantiable C0 N0 ∈ wsL_law) (hini : Cond.initialized C0 ∈ wsL_law) (d : decode cc pc = .ok (.new i, 3)) (hcells : cells + 1 ≤ Rm.cells) (hslots : slots + N0 ≤ Rm.slots)
    (k : Zq p l e Rm s m args below meth c G nL Q (cells + 1) (slots + N0) (z + 1) (va_up K z ci) N (va_up I z (fun _ => 0)) (va_up R z (fun _ => none)) (pc + 3) lv (.ref z :: st)) : Zq p l e Rm s m args below meth c G nL Q cells slots z K N I R pc lv st := fun H locs ls hW hL hl hd => by
  have hKn := C.2.2.2.2.2.2.2.1.1.1 ci _ hc
  refine W.newcK C.1 C.2.1 C.2.2.2.1 (C.2.2.2.2.1 _ hcl) (C.2.2.2.2.1 _ hinst) (C.2.2.2.2.1 _ hini) rfl d hcells hslots hKn.2.1 hW.1 fun H1 kC hkC e1 z1 o1 => ?_
  refine k H1 locs ls (hW.push (by rw [z1, hW.1]) (by rw [hW.1]; exact o1) ?_ fun b hb => ⟨va_up_n (Nat.ne_of_lt hb), rfl, va_up_n (Nat.ne_of_lt hb), va_up_n (Nat.ne_of_lt hb)⟩) hL hl hd
  rw [zat_o (va_up_s K z ci) h8]
  refine ⟨_, hc, (u_born (zty ci) C.2.2.2.2.1 hin hKn hkC e1 hty).to fun j hj => ?_⟩
  have hj' : j < znf ci := by rw [hn]; exact hj
  show defaultValue (zty ci j) = (zfs ci _ _ z).getD j .null
  rw [List.getD_eq_getElem?_getD, zfs_get hj', va_up_s, va_up_s, hdf j hj]
  rfl
theorem z_newa (C : Cx p l e Rm s m args below meth c G cc nL own ret) {n : Int} (d : decode cc pc = .ok (.newarray .int, 2)) (hw : Cond.arrayClass .int ∈ wsL_law) (hn : 0 ≤ n ∧ n < 2000) (hcells : cells + 1 ≤ Rm.cells) (hslots : slots + n.toNat ≤ Rm.slots)
    (k : Zq p l e Rm s m args below meth c G nL Q (cells + 1) (slots + n.toNat) (z + 1) (va_up K z 9) (va_up N z n.toNat) (va_up I z (fun _ => 0)) R (pc + 2) lv (.ref z :: st)) : Zq p l e Rm s m args below meth c G nL Q cells slots z K N I R pc lv (.int (zI n) :: st) := fun H locs ls hW hL hl hd => by
  obtain ⟨c1, c2⟩ := zI_clamp hn.1 (by omega)
  refine va_newaK (atype := .int) C.1 C.2.1 (C.2.2.2.2.1 _ hw) rfl d rfl c2 c1 (by show _ * 4 ≤ _; omega) hcells hslots hW.1 fun H1 cA e1 z1 o1 hAr hNm => ?_
  have hca : G.2.1 1 = cA := Option.some.inj ((C.2.2.2.2.2.2.2.1.1.2 1 _ rfl).2.symm.trans hNm)
  refine k H1 locs ls (hW.push (by rw [z1, hW.1]) (by rw [hW.1]; exact o1) ?_ fun b hb => ⟨va_up_n (Nat.ne_of_lt hb), va_up_n (Nat.ne_of_lt hb), va_up_n (Nat.ne_of_lt hb), rfl⟩) hL hl hd
  rw [zat_i (va_up_s K z 9), va_up_s, va_up_s, hca]
  show H1[z]? = some (vp_cell _ _)
  rw [vp_cell_i, e1]
  rfl
theorem z_newc (C : Cx p l e Rm s m args below meth c G cc nL own ret) {n : Int} (d : decode cc pc = .ok (.newarray .char, 2)) (hw : Cond.arrayClass .char ∈ wsL_law) (hn : 0 ≤ n ∧ n < 2000) (hcells : cells + 1 ≤ Rm.cells) (hslots : slots + n.toNat ≤ Rm.slots)
    (k : Zq p l e Rm s m args below meth c G nL Q (cells + 1) (slots + n.toNat) (z + 1) (va_up K z 8) (va_up N z n.toNat) (va_up I z (fun _ => 0)) R (pc + 2) lv (.ref z :: st)) : Zq p l e Rm s m args below meth c G nL Q cells slots z K N I R pc lv (.int (zI n) :: st) := fun H locs ls hW hL hl hd => by
  obtain ⟨c1, c2⟩ := zI_clamp hn.1 (by omega)
  refine va_newaK (atype := .char) C.1 C.2.1 (C.2.2.2.2.1 _ hw) rfl d rfl c2 c1 (by show _ * 2 ≤ _; omega) hcells hslots hW.1 fun H1 cA e1 z1 o1 hAr hNm => ?_
  have hca : G.2.1 0 = cA := Option.some.inj ((C.2.2.2.2.2.2.2.1.1.2 0 _ rfl).2.symm.trans hNm)
  refine k H1 locs ls (hW.push (by rw [z1, hW.1]) (by rw [hW.1]; exact o1) ?_ fun b hb => ⟨va_up_n (Nat.ne_of_lt hb), va_up_n (Nat.ne_of_lt hb), va_up_n (Nat.ne_of_lt hb), rfl⟩) hL hl hd
  rw [zat_c (va_up_s K z 8), va_up_s, va_up_s, hca]
  show H1[z]? = some (vp_cell _ _)
  rw [vp_cell_i, e1]
  rfl
theorem z_anew (C : Cx p l e Rm s m args below meth c G cc nL own ret) (kd : Nat) {i : Nat} {n : Int} {C0 : String} (hkd : (kd = 10 ∧ C0 = RX1) ∨ (kd = 11 ∧ C0 = RX4)) (d : decode cc pc = .ok (.anewarray i, 3)) (hcl : Cond.classLink own i C0 ∈ wsL_law) (hn : 0 ≤ n ∧ n < 2000) (hcells : cells + 1 ≤ Rm.cells) (hslots : slots + n.toNat ≤ Rm.slots)
    (k : Zq p l e Rm s m args below meth c G nL Q (cells + 1) (slots + n.toNat) (z + 1) (va_up K z kd) (va_up N z n.toNat) I (va_up R z (fun _ => none)) (pc + 3) lv (.ref z :: st)) : Zq p l e Rm s m args below meth c G nL Q cells slots z K N I R pc lv (.int (zI n) :: st) := fun H locs ls hW hL hl hd => by
  obtain ⟨c1, c2⟩ := zI_clamp hn.1 (by omega)
  have hWv := C.2.2.2.2.2.2.2.1
  have hAO : va_AO C0 s := by rcases hkd with ⟨-, e⟩ | ⟨-, e⟩ <;> subst e; exact hWv.2.2.2.2.2.1; exact hWv.2.2.2.2.2.2
  refine W.anew C.1 C.2.1 C.2.2.2.1 (C.2.2.2.2.1 _ hcl) (va_AO.use hAO) rfl d rfl c2 (by rw [c1]; omega) hcells (by rw [c1]; exact hslots) fun cA kA comp f1 f2 f3 f4 => ?_
  rw [c1]
  obtain ⟨tk, ht, hz⟩ : ∃ (tk : Nat), (ztys G.2.1)[tk]? = some (G.2.1 tk, .object C0) ∧ ∀ (N' : Nat → Nat) (R' : MR), zat G.2.1 (va_up K z kd) N' I R' z = .inl (G.2.1 tk, N' z, .inr (.inr (.inr (.inr (R' z))))) := by
    rcases hkd with ⟨e, e2⟩ | ⟨e, e2⟩
    · subst e; subst e2; exact ⟨2, rfl, fun N' R' => zat_g (va_up_s K z 10)⟩
    · subst e; subst e2; exact ⟨3, rfl, fun N' R' => zat_t (va_up_s K z 11)⟩
  obtain ⟨kA', comp', g1, g2, g3, g4⟩ := (hWv.1.2 tk _ ht).2
  have hca : G.2.1 tk = cA := Option.some.inj (g4.symm.trans f1)
  have e1 : ∀ q : Nat, q < H.size → (H.push ({ cls := cA, slots := Array.replicate n.toNat .null, vm := .none } : Cell))[q]? = H[q]? := fun q hq => by rw [Array.getElem?_push, if_neg (Nat.ne_of_lt hq)]
  have e2 : (H.push ({ cls := cA, slots := Array.replicate n.toNat .null, vm := .none } : Cell))[H.size]? = some (arrV cA n.toNat (fun _ => .null)) := by rw [Array.getElem?_push_size, ← arrV_new]
  refine W.eq (g2 := F0 m (pc + 3) ls (.ref z :: st)) (by rw [hW.1]) (k _ locs ls (hW.push (by rw [Array.size_push]) e1 ?_ fun b hb => ⟨va_up_n (Nat.ne_of_lt hb), va_up_n (Nat.ne_of_lt hb), rfl, va_up_n (Nat.ne_of_lt hb)⟩) hL hl hd)
  rw [hz, va_up_s, va_up_s, hca]
  show _ = some (vp_cell _ _)
  have e3 := e2
  rw [hW.1] at e3
  rw [vp_cell_q, e3]
  rfl
def zsa (s : State) (H0 : Heap) (t : Nat) (f : Nat → Int) : Prop := t < H0.size ∧ ∃ cell : Cell, H0[t]? = some cell ∧ (cell.vm.isStatics = false ∧ cell.vm ≠ .unknown) ∧ s.isArrayOf cell .int ∧ s.vm.findClass "[I" = some cell.cls ∧ cell.slots.size = 3 ∧ ∀ j : Nat, j < 3 → cell.slots[j]? = some (.int (zI (f j)))
theorem z_gets0 (C : Cx p l e Rm s m args below meth c G cc nL own ret) {i : Nat} {n : String} {f : Nat → Int} (hs : zsta s G.2.2 n f) (hlink : (Cond.fieldLink own i RX6 n "[I").before args s = true ∨ (Cond.fieldLinkNest own i RX6 n "[I" RX6).before args s = true) (d : decode cc pc = .ok (.getstatic i, 3))
    (k : ∀ t : Nat, zsa s G.2.2 t f → Zq p l e Rm s m args below meth c G nL Q cells slots z K N I R (pc + 3) lv (.ref t :: st)) : Zq p l e Rm s m args below meth c G nL Q cells slots z K N I R pc lv st := fun H locs ls hW hL hl hd => by
  obtain ⟨t, hZ, cell, g1, g2, g3, g4, g5, g6⟩ := hs
  have ht : t < G.2.2.size := (Array.getElem?_eq_some_iff.mp g1).1
  have k1 := k t ⟨ht, cell, g1, g2, g3, g4, g5, g6⟩ H locs ls hW hL hl hd
  obtain ⟨cf, kf, fi, fl, a, cl, h1, h2, h3, h4, h5, h6, h7, h8⟩ := hZ
  have ha : a < G.2.2.size := (Array.getElem?_eq_some_iff.mp h5).1
  have hH : H[a]? = some cl := by rw [hW.2.2.1 a ha]; exact h5
  rcases hlink with hlink | hlink
  · exact W.gets C.1 C.2.1 C.2.2.2.1 hlink h1 h2 h3 h4 hH (fun e => by rw [e] at h6; cases h6) h7 rfl d k1
  · exact va_WgetsN C.1 C.2.1 C.2.2.2.1 hlink h1 h2 h3 h4 hH (fun e => by rw [e] at h6; cases h6) h7 rfl d k1
theorem z_sald (C : Cx p l e Rm s m args below meth c G cc nL own ret) {t : Nat} {j : Int} {f : Nat → Int} (hs : zsa s G.2.2 t f) (d : decode cc pc = .ok (.iaload, 1)) (hj : 0 ≤ j ∧ j < 3)
    (k : Zq p l e Rm s m args below meth c G nL Q cells slots z K N I R (pc + 1) lv (.int (zI (f j.toNat)) :: st)) : Zq p l e Rm s m args below meth c G nL Q cells slots z K N I R pc lv (.int (zI j) :: .ref t :: st) := fun H locs ls hW hL hl hd => by
  obtain ⟨ht, cell, g1, g2, g3, g4, g5, g6⟩ := hs
  obtain ⟨h1, h2⟩ := zI_idx (n := 3) hj.1 hj.2 (by omega)
  exact W.iald C.1 C.2.1 (by rw [hW.2.2.1 t ht]; exact g1) g3 g2.2 (by rw [g5]; exact h1) (by rw [h2]; exact g6 _ (by omega)) rfl rfl d (k H locs ls hW hL hl hd)
/-- what clone() of an int array asks of the words -/
def zclw (own : String) (i : Nat) : List Cond := [.methodLink own i ⟨"[I", "clone", "()Ljava/lang/Object;"⟩, .sameMethod "[I" "java/lang/Object" "clone" "()Ljava/lang/Object;", .native ⟨"java/lang/Object", "clone", "()Ljava/lang/Object;"⟩, .instanceMethod ⟨"java/lang/Object", "clone", "()Ljava/lang/Object;"⟩, .selects "[I" ⟨"[I", "clone", "()Ljava/lang/Object;"⟩ ⟨"java/lang/Object", "clone", "()Ljava/lang/Object;"⟩]
theorem zclone (C : Cx p l e Rm s m args below meth c G cc nL own ret) {i t n : Nat} {H : Heap} {locs : List Loc} {ls : Array Slot} {f : Nat → Int} (hws : ∀ w ∈ zclw own i, w ∈ wsL_law) {cell : Cell} (hcell : H[t]? = some cell) (hvm : cell.vm.isStatics = false ∧ cell.vm ≠ .unknown) (hnm : s.vm.findClass "[I" = some cell.cls) (hsz : cell.slots.size = n) (hrd : ∀ j : Nat, j < n → cell.slots[j]? = some (.int (zI (f j)))) (d : decode cc pc = .ok (.invokevirtual i, 3)) (hframes : 1 ≤ Rm.frames) (hlocals : (st.map fun v => v.category).sum + 14 ≤ Rm.locals) (hcells : cells + 1 ≤ Rm.cells) (hslots : slots + n ≤ Rm.slots)
    (hW : Wh G z K N I R H) (hL : ∀ q ∈ locs, G.2.2.size ≤ q.base) (hl : lv_has ls nL lv) (hd : lvd lv = true) (k : Zq p l e Rm s m args below meth c G nL Q (cells + 1) (slots + n) (z + 1) (va_up K z 9) (va_up N z n) (va_up I z f) R (pc + 3) lv (.ref z :: st)) : W p l e Rm s m args below meth c H locs cells slots Q (F0 m pc ls (.ref t :: st)) := by
  have hWv := C.2.2.2.2.2.2.2.1
  have hts := C.2.2.2.2.1
  obtain ⟨hAr, hRA⟩ := hWv.1.2 1 _ rfl
  have hcls : cell.cls = G.2.1 1 := Option.some.inj (hnm.symm.trans (va_nm_int hRA))
  obtain ⟨c0, t0, f1, f2, f3⟩ := Cond.castable_spec (va_Nw.use (A := args) rfl hWv.2.2.2.2.1)
  cases hnm.symm.trans f1
  intro T hT X
  have hcellT : T.heap[t]? = some cell := by rw [hT]; exact hcell
  obtain ⟨-, kA, hkA, comp, hkind⟩ := State.isArrayOf_alike X.warmed.alike (hAr 0 (fun _ => .null))
  obtain ⟨-, kS, hkS, compS, hkindS⟩ := hAr 0 (fun _ => .null)
  obtain ⟨vm', X', stp⟩ := X.cloneArray C.1 C.2.2.2.1 (hts _ (hws _ (List.mem_of_getElem? (i := 0) rfl))) (hts _ (hws _ (List.mem_of_getElem? (i := 1) rfl))) (hts _ (hws _ (List.mem_of_getElem? (i := 2) rfl))) (hts _ (hws _ (List.mem_of_getElem? (i := 3) rfl))) (hts _ (hws _ (List.mem_of_getElem? (i := 4) rfl))) (a := t) (cell := cell) hcellT (fun k h => by have w := hvm.1; rw [h] at w; exact Bool.noConfusion (show true = false from w)) hvm.2 hnm f2 f3
    (fun i v hv => by
      have hi : i < n := by rw [← hsz]; exact (Array.getElem?_eq_some_iff.mp hv).1
      cases hv.symm.trans (hrd i hi)
      have hk' : T.vm.classes[cell.cls]? = some kA := by rw [hcls]; exact hkA
      simp [State.fitsSlot, State.slotType?, hk', hkind, fits])
    (g := F0 m pc ls (.ref t :: st)) rfl (by rw [C.2.2.1]; exact hl.1) rfl (by rw [C.2.1]; exact d) hframes (by show 2 * 0 + _ + 14 ≤ _; omega) hcells (by rw [hsz]; exact hslots) (hloader := by rw [hcls]; exact Vm.clonesLoader_of_array hkS hkindS)
  have hce : ({ cls := cell.cls, slots := cell.slots } : Cell) = arrV (G.2.1 1) n (fun j => .int (zI (f j))) := by
    rw [hcls]
    unfold arrV
    congr 1
    apply Array.ext (by rw [hsz, Array.size_ofFn])
    intro i h1 h2
    have h3 := hrd i (by rw [← hsz]; exact h1)
    rw [Array.getElem?_eq_getElem h1] at h3
    rw [Array.getElem_ofFn]
    exact Option.some.inj h3
  rw [hce] at X' stp
  rw [hsz] at X'
  have z1 : (H.push (arrV (G.2.1 1) n (fun j => .int (zI (f j))))).size = H.size + 1 := by rw [Array.size_push]
  have e1 : (H.push (arrV (G.2.1 1) n (fun j => .int (zI (f j)))))[H.size]? = some (arrV (G.2.1 1) n (fun j => .int (zI (f j)))) := by rw [Array.getElem?_push_size]
  have o1 : ∀ q : Nat, q < H.size → (H.push (arrV (G.2.1 1) n (fun j => .int (zI (f j)))))[q]? = H[q]? := fun q hq => by rw [Array.getElem?_push, if_neg (Nat.ne_of_lt hq)]
  have hz : H.size = z := hW.1
  have hz2 : T.heap.size = z := by rw [hT]; exact hW.1
  rw [hz2] at stp
  obtain ⟨t9, b1, b2⟩ := k _ locs ls (hW.push z1 o1 (by
      rw [zat_i (va_up_s K z 9), va_up_s, va_up_s]
      show _ = some (vp_cell _ _)
      have e2 := e1
      rw [hz] at e2
      rw [vp_cell_i, e2]) fun b hb => ⟨va_up_n (Nat.ne_of_lt hb), va_up_n (Nat.ne_of_lt hb), va_up_n (Nat.ne_of_lt hb), rfl⟩) hL hl hd ((T.setVm vm').pushCell (arrV (G.2.1 1) n (fun j => .int (zI (f j))))) (by rw [← hT]; rfl) X'
  exact ⟨t9, stp t9 b1, b2⟩
theorem z_sclone (C : Cx p l e Rm s m args below meth c G cc nL own ret) {i t : Nat} {f : Nat → Int} (hs : zsa s G.2.2 t f) (hws : ∀ w ∈ zclw own i, w ∈ wsL_law) (d : decode cc pc = .ok (.invokevirtual i, 3)) (hframes : 1 ≤ Rm.frames) (hlocals : (st.map fun v => v.category).sum + 14 ≤ Rm.locals) (hcells : cells + 1 ≤ Rm.cells) (hslots : slots + 3 ≤ Rm.slots)
    (k : Zq p l e Rm s m args below meth c G nL Q (cells + 1) (slots + 3) (z + 1) (va_up K z 9) (va_up N z 3) (va_up I z f) R (pc + 3) lv (.ref z :: st)) : Zq p l e Rm s m args below meth c G nL Q cells slots z K N I R pc lv (.ref t :: st) := fun H locs ls hW hL hl hd => by
  obtain ⟨ht, cell, g1, g2, g3, g4, g5, g6⟩ := hs
  exact zclone C hws (by rw [hW.2.2.1 t ht]; exact g1) g2 g4 g5 g6 d hframes hlocals hcells hslots hW hL hl hd k
theorem z_clone (C : Cx p l e Rm s m args below meth c G cc nL own ret) {i a : Nat} (hws : ∀ w ∈ zclw own i, w ∈ wsL_law) (ha : zK G z K a 9) (d : decode cc pc = .ok (.invokevirtual i, 3)) (hframes : 1 ≤ Rm.frames) (hlocals : (st.map fun v => v.category).sum + 14 ≤ Rm.locals) (hcells : cells + 1 ≤ Rm.cells) (hslots : slots + N a ≤ Rm.slots)
    (k : Zq p l e Rm s m args below meth c G nL Q (cells + 1) (slots + N a) (z + 1) (va_up K z 9) (va_up N z (N a)) (va_up I z (I a)) R (pc + 3) lv (.ref z :: st)) : Zq p l e Rm s m args below meth c G nL Q cells slots z K N I R pc lv (.ref a :: st) := fun H locs ls hW hL hl hd => by
  exact zclone C hws (zwI hW ha) ⟨rfl, fun h => by cases h⟩ (by rw [va_nm_int (C.2.2.2.2.2.2.2.1.1.2 1 _ rfl).2]; rfl) (by rw [vp_cell_i, arrV_size]) (fun j hj => by rw [vp_cell_i, arrV_read _ _ hj]) d hframes hlocals hcells hslots hW hL hl hd k
theorem z_castA (C : Cx p l e Rm s m args below meth c G cc nL own ret) {i a : Nat} (d : decode cc pc = .ok (.checkcast i, 3)) (hlink : Cond.classLink own i "[I" ∈ wsL_law) (ha : zK G z K a 9)
    (k : Zq p l e Rm s m args below meth c G nL Q cells slots z K N I R (pc + 3) lv (.ref a :: st)) : Zq p l e Rm s m args below meth c G nL Q cells slots z K N I R pc lv (.ref a :: st) := fun H locs ls hW hL hl hd =>
  va_castA (D := G.1) (cl := vwCl) (ws := [(a, .inl (G.2.1 1, N a, .inl (fun j => zI (I a j))))]) C.1 C.2.1 C.2.2.2.1 (C.2.2.2.2.1 _ hlink) (va_P1 (zwI hW ha)) 0 rfl (va_nm_int (C.2.2.2.2.2.2.2.1.1.2 1 _ rfl).2) d (k H locs ls hW hL hl hd)
def zcpy (f g : Nat → Int) (sp dp n : Nat) : Nat → Int := fun k => if dp ≤ k ∧ k < dp + n then f (sp + (k - dp)) else g k
theorem z_acopy (C : Cx p l e Rm s m args below meth c G cc nL own ret) {i a b : Nat} {sp dp n : Int} (hlink : Cond.methodLink own i arraycopyName ∈ wsL_law) (hnat : Cond.native arraycopyName ∈ wsL_law) (hstat : Cond.static arraycopyName ∈ wsL_law) (hini : Cond.initialized "java/lang/System" ∈ wsL_law) (ha : zK G z K a 9) (hb : zK G z K b 9) (h1 : 0 ≤ sp ∧ 0 ≤ dp ∧ 0 ≤ n) (h4 : sp + n ≤ (N a : Int)) (h5 : dp + n ≤ (N b : Int)) (hNa : N a < 2147483648) (hNb : N b < 2147483648) (hframes : 1 ≤ Rm.frames) (hlocals : (st.map fun v => v.category).sum + (nativeFrameWords "java/lang/System" "arraycopy" 5 + 11) ≤ Rm.locals) (d : decode cc pc = .ok (.invokestatic i, 3))
    (k : Zq p l e Rm s m args below meth c G nL Q cells slots z K N (va_up I b (zcpy (I a) (I b) sp.toNat dp.toNat n.toNat)) R (pc + 3) lv st) : Zq p l e Rm s m args below meth c G nL Q cells slots z K N I R pc lv (.int (zI n) :: .int (zI dp) :: .ref b :: .int (zI sp) :: .ref a :: st) := fun H locs ls hW hL hl hd => by
  obtain ⟨s1, s2⟩ := zI_clamp h1.1 (by omega)
  obtain ⟨d1, d2⟩ := zI_clamp h1.2.1 (by omega)
  obtain ⟨n1, n2⟩ := zI_clamp h1.2.2 (by omega)
  have is : (zI sp).toInt = (sp.toNat : Int) := by rw [zI_int ⟨by omega, by omega⟩]; omega
  have id1 : (zI dp).toInt = (dp.toNat : Int) := by rw [zI_int ⟨by omega, by omega⟩]; omega
  have in1 : (zI n).toInt = (n.toNat : Int) := by rw [zI_int ⟨by omega, by omega⟩]; omega
  have hts := C.2.2.2.2.1
  have hc0 := zwI hW ha
  have hc1 := zwI hW hb
  intro T hT X
  obtain ⟨-, k0, hk0, cm0, hkk0⟩ := (C.2.2.2.2.2.2.2.1.1.2 1 _ rfl).1 (N a) (fun j => .int (zI (I a j)))
  obtain ⟨-, k1, hk1, cm1, hkk1⟩ := (C.2.2.2.2.2.2.2.1.1.2 1 _ rfl).1 (N b) (fun j => .int (zI (I b j)))
  obtain ⟨vm', X', step⟩ := X.arraycopy C.1 C.2.2.2.1 (hts _ hlink) (hts _ hnat) (hts _ hstat) (hts _ hini) (src := a) (dst := b) (cs := vp_cell (G.2.1 1) (N a, .inl (fun j => zI (I a j)))) (cd := vp_cell (G.2.1 1) (N b, .inl (fun j => zI (I b j)))) (srcPos := zI sp) (destPos := zI dp) (n := zI n) (by rw [hT]; exact hc0) (by rw [hT]; exact hc1)
    (fun _ h => by cases h) (fun _ h => by cases h) (fun h => by cases h) (fun h => by cases h) hk0 hk1 hkk0 hkk1 (by simp [refKind]) s2 d2 n2
    (by rw [is, in1]; show ¬ _ > ((arrV (G.2.1 1) (N a) (fun j => .int (zI (I a j)))).slots.size : Int); rw [arrV_size]; omega)
    (by rw [id1, in1]; show ¬ _ > ((arrV (G.2.1 1) (N b) (fun j => .int (zI (I b j)))).slots.size : Int); rw [arrV_size]; omega)
    (fun vm₁ _ i hi => by
      rw [n1] at hi
      have e : (vp_cell (G.2.1 1) (N a, .inl (fun j => zI (I a j)))).slots.getD ((zI sp).toNatClampNeg + i) .null = .int (zI (I a (sp.toNat + i))) := by
        show (arrV (G.2.1 1) (N a) (fun j => .int (zI (I a j)))).slots.getD _ _ = _
        rw [Array.getD_eq_getD_getElem?, arrV_read _ _ (by rw [s1]; omega), s1]
        rfl
      refine ⟨?_, ?_⟩
      · rw [e]
        rfl
      · rw [e]
        exact trivial)
    (g := F0 m pc ls (.int (zI n) :: .int (zI dp) :: .ref b :: .int (zI sp) :: .ref a :: st)) rfl (by rw [C.2.2.1]; exact hl.1) (rest := st) rfl (by rw [C.2.1]; exact d) hframes (by show 2 * 0 + _ + _ ≤ _; omega)
  have e1 : copied (vp_cell (G.2.1 1) (N a, .inl (fun j => zI (I a j)))) (vp_cell (G.2.1 1) (N b, .inl (fun j => zI (I b j)))) (zI sp) (zI dp) (zI n) = vp_cell (G.2.1 1) (N b, .inl (va_cpy (fun j => zI (I a j)) (fun j => zI (I b j)) (zI sp).toNatClampNeg (zI dp).toNatClampNeg (zI n).toNatClampNeg)) := va_copied (fun z => .int z) (G.2.1 1) (G.2.1 1) (fun j => zI (I a j)) (fun j => zI (I b j)) (by rw [s1, n1]; omega)
  have e2 : vp_cell (G.2.1 1) (N b, .inl (va_cpy (fun j => zI (I a j)) (fun j => zI (I b j)) (zI sp).toNatClampNeg (zI dp).toNatClampNeg (zI n).toNatClampNeg)) = vp_cell (G.2.1 1) (N b, .inl (fun j => zI (zcpy (I a) (I b) sp.toNat dp.toNat n.toNat j))) := by
    rw [s1, d1, n1]
    congr 2
    congr 1
    funext q
    simp only [va_cpy, zcpy]
    split <;> rfl
  rw [e1, e2] at X' step
  have hlt : b < H.size := (Array.getElem?_eq_some_iff.mp hc1).1
  obtain ⟨t, a1, b1⟩ := k (H.setIfInBounds b (vp_cell (G.2.1 1) (N b, .inl (fun j => zI (zcpy (I a) (I b) sp.toNat dp.toNat n.toNat j))))) _ ls (hW.upd hb.1 (by simp) (fun q hq => by simp [Array.getElem?_setIfInBounds, Ne.symm hq]) (by
      rw [zat_i hb.2.2, va_up_s]
      show (H.setIfInBounds b _)[b]? = some (vp_cell _ _)
      simp [Array.getElem?_setIfInBounds, hlt]) fun q hq => ⟨va_up_n hq, rfl⟩) (fun q hq => by
      rcases List.mem_append.mp hq with h | h
      · exact hL q h
      · obtain ⟨y, -, hy⟩ := List.mem_map.mp h
        rw [← hy]
        exact hb.1) hl hd _ (by rw [← hT]; rfl) X'
  exact ⟨t, step t a1, b1⟩
theorem z_abs (C : Cx p l e Rm s m args below meth c G cc nL own ret) {i : Nat} {x : Int} (hlink : Cond.methodLink own i Lib.Math.abs.name ∈ wsL_law) (hstat : Cond.static Lib.Math.abs.name ∈ wsL_law) (hini : Cond.initialized "java/lang/Math" ∈ wsL_law) (hcode : Cond.code Lib.Math.abs.name Lib.Math.abs.code 1 (some .int) ∈ wsL_law) (hframes : 1 ≤ Rm.frames) (hlocals : (st.map fun v => v.category).sum + 13 ≤ Rm.locals) (hc : cells ≤ Rm.cells) (hs : slots ≤ Rm.slots) (d : decode cc pc = .ok (.invokestatic i, 3)) (hx : -2147483647 ≤ x ∧ x < 2147483648)
    (k : Zq p l e Rm s m args below meth c G nL Q cells slots z K N I R (pc + 3) lv (.int (zI (if 0 ≤ x then x else -x)) :: st)) : Zq p l e Rm s m args below meth c G nL Q cells slots z K N I R pc lv (.int (zI x) :: st) := fun H locs ls hW hL hl hd => by
  have hts := C.2.2.2.2.1
  refine va_mabs C.1 C.2.1 (by rw [C.2.2.1]; exact hl.1.symm) C.2.2.2.1 (hts _ hlink) (hts _ hstat) (hts _ hini) (hts _ hcode) hframes hlocals hc hs d ?_
  have e : (if 0 ≤ zI x then zI x else 0 - zI x) = zI (if 0 ≤ x then x else -x) := by
    have h1 : 0 ≤ zI x ↔ 0 ≤ x := by rw [zI_0]; exact zI_le ⟨by omega, by omega⟩ ⟨by omega, by omega⟩
    by_cases h : 0 ≤ x
    · rw [if_pos h, if_pos (h1.mpr h)]
    · rw [if_neg h, if_neg (fun q => h (h1.mp q)), zI_0, zI_sub]
      congr 1; omega
  rw [e]
  exact k H locs ls hW hL hl hd
theorem z_min (C : Cx p l e Rm s m args below meth c G cc nL own ret) {i : Nat} {x y : Int} (hlink : Cond.methodLink own i Lib.Math.min.name ∈ wsL_law) (hstat : Cond.static Lib.Math.min.name ∈ wsL_law) (hini : Cond.initialized "java/lang/Math" ∈ wsL_law) (hcode : Cond.code Lib.Math.min.name Lib.Math.min.code 2 (some .int) ∈ wsL_law) (hframes : 1 ≤ Rm.frames) (hlocals : (st.map fun v => v.category).sum + 13 ≤ Rm.locals) (hc : cells ≤ Rm.cells) (hs : slots ≤ Rm.slots) (d : decode cc pc = .ok (.invokestatic i, 3)) (hx : -2147483648 ≤ x ∧ x < 2147483648) (hy : -2147483648 ≤ y ∧ y < 2147483648)
    (k : Zq p l e Rm s m args below meth c G nL Q cells slots z K N I R (pc + 3) lv (.int (zI (if y < x then y else x)) :: st)) : Zq p l e Rm s m args below meth c G nL Q cells slots z K N I R pc lv (.int (zI y) :: .int (zI x) :: st) := fun H locs ls hW hL hl hd => by
  have hts := C.2.2.2.2.1
  refine va_mmin C.1 C.2.1 (by rw [C.2.2.1]; exact hl.1.symm) C.2.2.2.1 (hts _ hlink) (hts _ hstat) (hts _ hini) (hts _ hcode) hframes hlocals hc hs d ?_
  have e : (if zI y < zI x then zI y else zI x) = zI (if y < x then y else x) := by
    by_cases h : y < x
    · rw [if_pos h, if_pos ((zI_lt hy hx).mpr h)]
    · rw [if_neg h, if_neg (fun q => h ((zI_lt hy hx).mp q))]
  rw [e]
  exact k H locs ls hW hL hl hd
theorem z_objInit (C : Cx p l e Rm s m args below meth c G cc nL own ret) {i a : Nat} (hlink : Cond.methodLink own i objectInit ∈ wsL_law) (hinst : Cond.instanceMethod objectInit ∈ wsL_law) (hcode : Cond.code objectInit ⟨#[0xb1]⟩ 1 none ∈ wsL_law) (d : decode cc pc = .ok (.invokespecial i, 3)) (hframes : 1 ≤ Rm.frames) (hlocals : (st.map fun v => v.category).sum + 12 ≤ Rm.locals)
    (k : Zq p l e Rm s m args below meth c G nL Q cells slots z K N I R (pc + 3) lv st) : Zq p l e Rm s m args below meth c G nL Q cells slots z K N I R pc lv (.ref a :: st) := fun H locs ls hW hL hl hd =>
  W.objInit C.1 C.2.1 C.2.2.2.1 (C.2.2.2.2.1 _ hlink) (C.2.2.2.2.1 _ hinst) (C.2.2.2.2.1 _ hcode) rfl (by rw [C.2.2.1]; exact hl.1) rfl d hframes (by show 2 * 0 + _ + 12 ≤ _; omega) (k H locs ls hW hL hl hd)
theorem z_ialdk (C : Cx p l e Rm s m args below meth c G cc nL own ret) {a : Nat} {j : Int} (k : Nat) (d : decode cc pc = .ok (.iaload, 1)) (ha : zK G z K a 9) (hk : j = (k : Int)) (hj : k < N a) (hN : N a < 2147483648)
    (k0 : Zq p l e Rm s m args below meth c G nL Q cells slots z K N I R (pc + 1) lv (.int (zI (I a k)) :: st)) : Zq p l e Rm s m args below meth c G nL Q cells slots z K N I R pc lv (.int (zI j) :: .ref a :: st) := by subst hk; exact z_iald C d ha ⟨by omega, by omega⟩ hN k0
theorem z_caldk (C : Cx p l e Rm s m args below meth c G cc nL own ret) {a : Nat} {j : Int} (k : Nat) (d : decode cc pc = .ok (.caload, 1)) (ha : zK G z K a 8) (hk : j = (k : Int)) (hj : k < N a) (hN : N a < 2147483648)
    (k0 : Zq p l e Rm s m args below meth c G nL Q cells slots z K N I R (pc + 1) lv (.int (zI (I a k)) :: st)) : Zq p l e Rm s m args below meth c G nL Q cells slots z K N I R pc lv (.int (zI j) :: .ref a :: st) := by subst hk; exact z_cald C d ha ⟨by omega, by omega⟩ hN k0
theorem z_aaldk (C : Cx p l e Rm s m args below meth c G cc nL own ret) {a : Nat} {j : Int} (k : Nat) (kd : Nat) (hkd : kd = 10 ∨ kd = 11) (d : decode cc pc = .ok (.aaload, 1)) (ha : zK G z K a kd) (hk : j = (k : Int)) (hj : k < N a) (hN : N a < 2147483648)
    (k0 : Zq p l e Rm s m args below meth c G nL Q cells slots z K N I R (pc + 1) lv (va_rf (R a k) :: st)) : Zq p l e Rm s m args below meth c G nL Q cells slots z K N I R pc lv (.int (zI j) :: .ref a :: st) := by subst hk; exact z_aald C kd hkd d ha ⟨by omega, by omega⟩ hN k0
theorem z_iastk (C : Cx p l e Rm s m args below meth c G cc nL own ret) {a : Nat} {j : Int} (k : Nat) {v : Int} (d : decode cc pc = .ok (.iastore, 1)) (ha : zK G z K a 9) (hk : j = (k : Int)) (hj : k < N a) (hN : N a < 2147483648)
    (k0 : Zq p l e Rm s m args below meth c G nL Q cells slots z K N (u2 I a k v) R (pc + 1) lv st) : Zq p l e Rm s m args below meth c G nL Q cells slots z K N I R pc lv (.int (zI v) :: .int (zI j) :: .ref a :: st) := by subst hk; exact z_iast C d ha ⟨by omega, by omega⟩ hN k0
theorem z_castk (C : Cx p l e Rm s m args below meth c G cc nL own ret) {a : Nat} {j : Int} (k : Nat) {v : Int} (d : decode cc pc = .ok (.castore, 1)) (ha : zK G z K a 8) (hk : j = (k : Int)) (hj : k < N a) (hN : N a < 2147483648) (hv : 0 ≤ v ∧ v < 65536)
    (k0 : Zq p l e Rm s m args below meth c G nL Q cells slots z K N (u2 I a k v) R (pc + 1) lv st) : Zq p l e Rm s m args below meth c G nL Q cells slots z K N I R pc lv (.int (zI v) :: .int (zI j) :: .ref a :: st) := by subst hk; exact z_cast C d ha ⟨by omega, by omega⟩ hN hv k0
theorem z_after (C : Cx p l e Rm s m args below meth c G cc nL own ret) {st0 : List Value} {mc ms : Nat} {a0 : Array Value} {P : Option Value → Nat → (Nat → Nat) → (Nat → Nat) → MI → MR → Prop} {H : Heap} {locs : List Loc} {ls : Array Slot}
    (hr : va_Run p l e Rm s m args below meth c H locs cells slots mc ms (F0 m pc ls st0) st ((fun (_ : Array Value) (_ : State) (oc : Outcome) (t : State) => ∃ (r : Option Value) (z' : Nat) (K' N' : Nat → Nat) (I' : MI) (R' : MR), oc = .returned r ∧ P r z' K' N' I' R' ∧ Wh G z' K' N' I' R' t.heap) a0) (fun q => G.2.2.size ≤ q))
    (hL : ∀ q ∈ locs, G.2.2.size ≤ q.base) (hl : lv_has ls nL lv) (hd : lvd lv = true)
    (kk : ∀ (r : Option Value) (z' : Nat) (K' N' : Nat → Nat) (I' : MI) (R' : MR), P r z' K' N' I' R' → Zq p l e Rm s m args below meth c G nL Q (cells + mc) (slots + ms) z' K' N' I' R' (pc + 3) lv (zpush r st)) : W p l e Rm s m args below meth c H locs cells slots Q (F0 m pc ls st0) := by
  intro T hT X
  obtain ⟨v, st₀, t, T', L, h0, X', hL', e1, e2, ⟨r, z', K', N', I', R', hv, hp, hb⟩, stp⟩ := hr T hT X
  cases hv
  obtain ⟨t2, a1, b1⟩ := kk v z' K' N' I' R' hp T'.heap (locs ++ L) ls (by rw [e1]; exact hb) (fun q hq => by
      rcases List.mem_append.mp hq with h | h
      · exact hL q h
      · exact hL' q h) hl hd T' rfl X'
  rw [zpush_eq] at a1
  exact ⟨t2, stp t2 a1, b1⟩
theorem zblind {av : List Value} : FrameBlind (va_Pc av (fun U => Wv G U ∧ Wh G z K N I R U.heap)) := fun _ _ _ _ h => ⟨h.1, h.2.1.calling, h.2.2⟩
theorem zpre (C : Cx p l e Rm s m args below meth c G cc nL own ret) {av : List Value} {H : Heap} (hW : Wh G z K N I R H) : ∀ U : State, U.heap = H → s.WarmedH U.vm → (va_Pc av (fun U => Wv G U ∧ Wh G z K N I R U.heap)) av.toArray U := fun U hU hw => ⟨rfl, C.2.2.2.2.2.2.2.1.warm hw, by rw [hU]; exact hW⟩
theorem zfix (C : Cx p l e Rm s m args below meth c G cc nL own ret) : CallFix p m c cc nL s args wsL_law own := ⟨C.1, C.2.1, C.2.2.1, C.2.2.2.1, C.2.2.2.2.1⟩

theorem z_callV (C : Cx p l e Rm s m args below meth c G cc nL own ret) {st0 : List Value} {y : MethodName} {bytes : ByteArray} {maxL mc ms n i : Nat} {rt : Option FieldType} {ws : List Cond} {rm : Room} {As : List Value} {P : Option Value → Nat → (Nat → Nat) → (Nat → Nat) → MI → MR → Prop} {ci b N0 : Nat} {C0 : String} {T0 : u_T} (hc : vwCl[ci]? = some (C0, T0, N0)) (h8 : ci < 8) (hb : zK G z K b ci) (hC : Con l G y ws rm mc ms (.ref b :: As) z K N I R P) (cw : CallW Rm s args own C0 i y bytes maxL rt ws rm mc ms n) (hn : As.length = n) (hst : st0 = zst (.ref b :: As) st) (hWd : (st.map fun v => v.category).sum ≤ 8) (d : decode cc pc = .ok (.invokevirtual i, 3)) (hf : cells + mc ≤ Rm.cells ∧ slots + ms ≤ Rm.slots)
    (kk : ∀ (r : Option Value) (z' : Nat) (K' N' : Nat → Nat) (I' : MI) (R' : MR), P r z' K' N' I' R' → Zq p l e Rm s m args below meth c G nL Q (cells + mc) (slots + ms) z' K' N' I' R' (pc + 3) lv (zpush r st)) : Zq p l e Rm s m args below meth c G nL Q cells slots z K N I R pc lv st0 := fun H locs ls hW hL hl hd => by
  have hst2 : st0 = As.reverse ++ .ref b :: st := by rw [hst, zst_eq]; simp
  exact z_after C (a0 := (Value.ref b :: As).toArray) (va_runV (zfix C) hC cw ⟨zblind, (by
      have h := hW.2.2.2 b hb.1 hb.2.1
      rw [zat_o hb.2.2 h8] at h
      exact va_recv (ws := [(b, .inr (ci, zfs ci I R b))]) (q0 := 0) C.2.2.2.2.2.2.2.1.1 (va_P1 h) hc rfl), zpre C hW⟩ rfl hn hl.1 hst2 (lv_room hWd) d hf) hL hl hd kk
theorem z_callVd (C : Cx p l e Rm s m args below meth c G cc nL own ret) {st0 : List Value} {y : MethodName} {bytes : ByteArray} {maxL n i : Nat} {rt : Option FieldType} {ws : List Cond} {rm : Room} {As : List Value}  {ci b N0 : Nat} {C0 : String} {T0 : u_T} (hc : vwCl[ci]? = some (C0, T0, N0)) (h8 : ci < 8) (hb : zK G z K b ci) {r0 : Option Value} {I0 : MI} {R0 : MR} (hC : Cod l G y ws rm (.ref b :: As) z K N I R r0 I0 R0) (cw : CallW Rm s args own C0 i y bytes maxL rt ws rm 0 0 n) (hn : As.length = n) (hst : st0 = zst (.ref b :: As) st) (hWd : (st.map fun v => v.category).sum ≤ 8) (d : decode cc pc = .ok (.invokevirtual i, 3)) (hf : cells ≤ Rm.cells ∧ slots ≤ Rm.slots)
    (k : Zq p l e Rm s m args below meth c G nL Q cells slots z K N I0 R0 (pc + 3) lv (zpush r0 st)) : Zq p l e Rm s m args below meth c G nL Q cells slots z K N I R pc lv st0 :=
  z_callV C hc h8 hb hC cw hn hst hWd d hf fun r z' K' N' I' R' ⟨e1, e2, e3, e4, e5, e6⟩ => by
    subst e1; subst e2; subst e3; subst e4; subst e5; subst e6; exact k
theorem z_callS (C : Cx p l e Rm s m args below meth c G cc nL own ret) {st0 : List Value} {y : MethodName} {bytes : ByteArray} {maxL mc ms n i : Nat} {rt : Option FieldType} {ws : List Cond} {rm : Room} {As : List Value} {P : Option Value → Nat → (Nat → Nat) → (Nat → Nat) → MI → MR → Prop} (hC : Con l G y ws rm mc ms As z K N I R P) (cw : CallB Rm s args own i y bytes maxL rt ws rm mc ms n ∧ (Cond.static y).before args s = true) (hn : As.length = n) (hst : st0 = zst As st) (hWd : (st.map fun v => v.category).sum ≤ 8) (d : decode cc pc = .ok (.invokestatic i, 3)) (hf : cells + mc ≤ Rm.cells ∧ slots + ms ≤ Rm.slots)
    (kk : ∀ (r : Option Value) (z' : Nat) (K' N' : Nat → Nat) (I' : MI) (R' : MR), P r z' K' N' I' R' → Zq p l e Rm s m args below meth c G nL Q (cells + mc) (slots + ms) z' K' N' I' R' (pc + 3) lv (zpush r st)) : Zq p l e Rm s m args below meth c G nL Q cells slots z K N I R pc lv st0 := fun H locs ls hW hL hl hd => by
  have hst2 : st0 = As.reverse ++ st := by rw [hst, zst_eq]
  exact z_after C (a0 := (As).toArray) (va_runS (zfix C) hC cw ⟨zblind, zpre C hW⟩ rfl hn hl.1 hst2 (lv_room hWd) d hf) hL hl hd kk
theorem z_callSd (C : Cx p l e Rm s m args below meth c G cc nL own ret) {st0 : List Value} {y : MethodName} {bytes : ByteArray} {maxL n i : Nat} {rt : Option FieldType} {ws : List Cond} {rm : Room} {As : List Value}  {r0 : Option Value} {I0 : MI} {R0 : MR} (hC : Cod l G y ws rm As z K N I R r0 I0 R0) (cw : CallB Rm s args own i y bytes maxL rt ws rm 0 0 n ∧ (Cond.static y).before args s = true) (hn : As.length = n) (hst : st0 = zst As st) (hWd : (st.map fun v => v.category).sum ≤ 8) (d : decode cc pc = .ok (.invokestatic i, 3)) (hf : cells ≤ Rm.cells ∧ slots ≤ Rm.slots)
    (k : Zq p l e Rm s m args below meth c G nL Q cells slots z K N I0 R0 (pc + 3) lv (zpush r0 st)) : Zq p l e Rm s m args below meth c G nL Q cells slots z K N I R pc lv st0 :=
  z_callS C hC cw hn hst hWd d hf fun r z' K' N' I' R' ⟨e1, e2, e3, e4, e5, e6⟩ => by
    subst e1; subst e2; subst e3; subst e4; subst e5; subst e6; exact k
theorem z_callI (C : Cx p l e Rm s m args below meth c G cc nL own ret) {st0 : List Value} {y : MethodName} {bytes : ByteArray} {maxL mc ms n i : Nat} {ws : List Cond} {rm : Room} {As : List Value} {P : Option Value → Nat → (Nat → Nat) → (Nat → Nat) → MI → MR → Prop} {b : Nat} (hC : Con l G y ws rm mc ms (.ref b :: As) z K N I R P) (cw : CallB Rm s args own i y bytes maxL none ws rm mc ms n ∧ y.name = "<init>" ∧ (Cond.instanceMethod y).before args s = true) (hn : As.length = n) (hst : st0 = zst (.ref b :: As) st) (hWd : (st.map fun v => v.category).sum ≤ 8) (d : decode cc pc = .ok (.invokespecial i, 3)) (hf : cells + mc ≤ Rm.cells ∧ slots + ms ≤ Rm.slots)
    (kk : ∀ (r : Option Value) (z' : Nat) (K' N' : Nat → Nat) (I' : MI) (R' : MR), P r z' K' N' I' R' → Zq p l e Rm s m args below meth c G nL Q (cells + mc) (slots + ms) z' K' N' I' R' (pc + 3) lv (zpush r st)) : Zq p l e Rm s m args below meth c G nL Q cells slots z K N I R pc lv st0 := fun H locs ls hW hL hl hd => by
  have hst2 : st0 = As.reverse ++ .ref b :: st := by rw [hst, zst_eq]; simp
  exact z_after C (a0 := (Value.ref b :: As).toArray) (va_runI (zfix C) hC cw ⟨zblind, zpre C hW⟩ rfl hn hl.1 hst2 (lv_room hWd) d hf) hL hl hd kk
theorem z_callId (C : Cx p l e Rm s m args below meth c G cc nL own ret) {st0 : List Value} {y : MethodName} {bytes : ByteArray} {maxL n i : Nat} {ws : List Cond} {rm : Room} {As : List Value}  {b : Nat} {r0 : Option Value} {I0 : MI} {R0 : MR} (hC : Cod l G y ws rm (.ref b :: As) z K N I R r0 I0 R0) (cw : CallB Rm s args own i y bytes maxL none ws rm 0 0 n ∧ y.name = "<init>" ∧ (Cond.instanceMethod y).before args s = true) (hn : As.length = n) (hst : st0 = zst (.ref b :: As) st) (hWd : (st.map fun v => v.category).sum ≤ 8) (d : decode cc pc = .ok (.invokespecial i, 3)) (hf : cells ≤ Rm.cells ∧ slots ≤ Rm.slots)
    (k : Zq p l e Rm s m args below meth c G nL Q cells slots z K N I0 R0 (pc + 3) lv (zpush r0 st)) : Zq p l e Rm s m args below meth c G nL Q cells slots z K N I R pc lv st0 :=
  z_callI C hC cw hn hst hWd d hf fun r z' K' N' I' R' ⟨e1, e2, e3, e4, e5, e6⟩ => by
    subst e1; subst e2; subst e3; subst e4; subst e5; subst e6; exact k
theorem z_callSN (C : Cx p l e Rm s m args below meth c G cc nL own ret) {st0 : List Value} {y : MethodName} {bytes : ByteArray} {maxL mc ms n i : Nat} {rt : Option FieldType} {ws : List Cond} {rm : Room} {As : List Value} {P : Option Value → Nat → (Nat → Nat) → (Nat → Nat) → MI → MR → Prop} {host : String} (hC : Con l G y ws rm mc ms As z K N I R P) (cw : va_CN Rm s args own i y host bytes maxL rt ws rm mc ms n ∧ (Cond.static y).before args s = true ∧ True) (hn : As.length = n) (hst : st0 = zst As st) (hWd : (st.map fun v => v.category).sum ≤ 8) (d : decode cc pc = .ok (.invokestatic i, 3)) (hf : cells + mc ≤ Rm.cells ∧ slots + ms ≤ Rm.slots)
    (kk : ∀ (r : Option Value) (z' : Nat) (K' N' : Nat → Nat) (I' : MI) (R' : MR), P r z' K' N' I' R' → Zq p l e Rm s m args below meth c G nL Q (cells + mc) (slots + ms) z' K' N' I' R' (pc + 3) lv (zpush r st)) : Zq p l e Rm s m args below meth c G nL Q cells slots z K N I R pc lv st0 := fun H locs ls hW hL hl hd => by
  have hst2 : st0 = As.reverse ++ st := by rw [hst, zst_eq]
  exact z_after C (a0 := (As).toArray) (va_runSN (zfix C) hC cw ⟨zblind, zpre C hW⟩ rfl hn hl.1 hst2 (lv_room hWd) d hf) hL hl hd kk
theorem z_callSNd (C : Cx p l e Rm s m args below meth c G cc nL own ret) {st0 : List Value} {y : MethodName} {bytes : ByteArray} {maxL n i : Nat} {rt : Option FieldType} {ws : List Cond} {rm : Room} {As : List Value}  {host : String} {r0 : Option Value} {I0 : MI} {R0 : MR} (hC : Cod l G y ws rm As z K N I R r0 I0 R0) (cw : va_CN Rm s args own i y host bytes maxL rt ws rm 0 0 n ∧ (Cond.static y).before args s = true ∧ True) (hn : As.length = n) (hst : st0 = zst As st) (hWd : (st.map fun v => v.category).sum ≤ 8) (d : decode cc pc = .ok (.invokestatic i, 3)) (hf : cells ≤ Rm.cells ∧ slots ≤ Rm.slots)
    (k : Zq p l e Rm s m args below meth c G nL Q cells slots z K N I0 R0 (pc + 3) lv (zpush r0 st)) : Zq p l e Rm s m args below meth c G nL Q cells slots z K N I R pc lv st0 :=
  z_callSN C hC cw hn hst hWd d hf fun r z' K' N' I' R' ⟨e1, e2, e3, e4, e5, e6⟩ => by
    subst e1; subst e2; subst e3; subst e4; subst e5; subst e6; exact k
theorem z_callIN (C : Cx p l e Rm s m args below meth c G cc nL own ret) {st0 : List Value} {y : MethodName} {bytes : ByteArray} {maxL mc ms n i : Nat} {ws : List Cond} {rm : Room} {As : List Value} {P : Option Value → Nat → (Nat → Nat) → (Nat → Nat) → MI → MR → Prop} {host : String} {b : Nat} (hC : Con l G y ws rm mc ms (.ref b :: As) z K N I R P) (cw : va_CN Rm s args own i y host bytes maxL none ws rm mc ms n ∧ y.name = "<init>" ∧ (Cond.instanceMethod y).before args s = true) (hn : As.length = n) (hst : st0 = zst (.ref b :: As) st) (hWd : (st.map fun v => v.category).sum ≤ 8) (d : decode cc pc = .ok (.invokespecial i, 3)) (hf : cells + mc ≤ Rm.cells ∧ slots + ms ≤ Rm.slots)
    (kk : ∀ (r : Option Value) (z' : Nat) (K' N' : Nat → Nat) (I' : MI) (R' : MR), P r z' K' N' I' R' → Zq p l e Rm s m args below meth c G nL Q (cells + mc) (slots + ms) z' K' N' I' R' (pc + 3) lv (zpush r st)) : Zq p l e Rm s m args below meth c G nL Q cells slots z K N I R pc lv st0 := fun H locs ls hW hL hl hd => by
  have hst2 : st0 = As.reverse ++ .ref b :: st := by rw [hst, zst_eq]; simp
  exact z_after C (a0 := (Value.ref b :: As).toArray) (va_runIN (zfix C) hC cw ⟨zblind, zpre C hW⟩ rfl hn hl.1 hst2 (lv_room hWd) d hf) hL hl hd kk
theorem z_callINd (C : Cx p l e Rm s m args below meth c G cc nL own ret) {st0 : List Value} {y : MethodName} {bytes : ByteArray} {maxL n i : Nat} {ws : List Cond} {rm : Room} {As : List Value}  {host : String} {b : Nat} {r0 : Option Value} {I0 : MI} {R0 : MR} (hC : Cod l G y ws rm (.ref b :: As) z K N I R r0 I0 R0) (cw : va_CN Rm s args own i y host bytes maxL none ws rm 0 0 n ∧ y.name = "<init>" ∧ (Cond.instanceMethod y).before args s = true) (hn : As.length = n) (hst : st0 = zst (.ref b :: As) st) (hWd : (st.map fun v => v.category).sum ≤ 8) (d : decode cc pc = .ok (.invokespecial i, 3)) (hf : cells ≤ Rm.cells ∧ slots ≤ Rm.slots)
    (k : Zq p l e Rm s m args below meth c G nL Q cells slots z K N I0 R0 (pc + 3) lv (zpush r0 st)) : Zq p l e Rm s m args below meth c G nL Q cells slots z K N I R pc lv st0 :=
  z_callIN C hC cw hn hst hWd d hf fun r z' K' N' I' R' ⟨e1, e2, e3, e4, e5, e6⟩ => by
    subst e1; subst e2; subst e3; subst e4; subst e5; subst e6; exact k
theorem z_widen {k n : Nat} (h1 : cells ≤ k) (h2 : slots ≤ n) (kk : Zq p l e Rm s m args below meth c G nL Q k n z K N I R pc lv st) : Zq p l e Rm s m args below meth c G nL Q cells slots z K N I R pc lv st := fun H locs ls hW hL hl hd => W.widen h1 h2 (kk H locs ls hW hL hl hd)
abbrev zQ (p : Program) (l : Launch) (e : Env) (Rm : Room) (s : State) (m : MethodId) (args : Array Value) (below : List Frame) (meth : Method) (c : Code) (G : GG) (P : Option Value → Nat → (Nat → Nat) → (Nat → Nat) → MI → MR → Prop) (mc ms : Nat) : State → Prop := MQ below (fun _ _ oc t => ∃ (r : Option Value) (z' : Nat) (K' N' : Nat → Nat) (I' : MI) (R' : MR), oc = .returned r ∧ P r z' K' N' I' R' ∧ Wh G z' K' N' I' R' t.heap) args s mc ms (fun q => G.2.2.size ≤ q)
theorem z_iret (C : Cx p l e Rm s m args below meth c G cc nL own ret) {P : Option Value → Nat → (Nat → Nat) → (Nat → Nat) → MI → MR → Prop} {x : Int} (hr : ret = some .int) (d : decode cc pc = .ok (.ireturn, 1)) (hp : P (some (.int (zI x))) z K N I R) : Zq p l e Rm s m args below meth c G nL (zQ p l e Rm s m args below meth c G P cells slots) cells slots z K N I R pc lv [.int (zI x)] := fun H locs ls hW hL hl hd =>
  W.iret C.1 C.2.1 (by rw [C.2.2.2.2.2.2.1, hr]) (fun t ht _ => ⟨_, _, _, _, _, _, rfl, hp, by rw [ht]; exact hW⟩) hL d C.2.2.2.2.2.1
theorem z_zret (C : Cx p l e Rm s m args below meth c G cc nL own ret) {P : Option Value → Nat → (Nat → Nat) → (Nat → Nat) → MI → MR → Prop} {x : Int} (hr : ret = some .boolean) (hx : x = 0 ∨ x = 1) (d : decode cc pc = .ok (.ireturn, 1)) (hp : P (some (.int (zI x))) z K N I R) : Zq p l e Rm s m args below meth c G nL (zQ p l e Rm s m args below meth c G P cells slots) cells slots z K N I R pc lv [.int (zI x)] := fun H locs ls hW hL hl hd =>
  W.zret (ty := .boolean) C.1 C.2.1 (by rw [C.2.2.2.2.2.2.1, hr]) (by rcases hx with e | e <;> subst e <;> decide +kernel) (fun t ht _ => ⟨_, _, _, _, _, _, rfl, hp, by rw [ht]; exact hW⟩) hL d C.2.2.2.2.2.1
theorem z_vret (C : Cx p l e Rm s m args below meth c G cc nL own ret) {P : Option Value → Nat → (Nat → Nat) → (Nat → Nat) → MI → MR → Prop} (hr : ret = none) (d : decode cc pc = .ok (.return_, 1)) (hp : P none z K N I R) : Zq p l e Rm s m args below meth c G nL (zQ p l e Rm s m args below meth c G P cells slots) cells slots z K N I R pc lv [] := fun H locs ls hW hL hl hd =>
  W.vret C.1 C.2.1 (by rw [C.2.2.2.2.2.2.1, hr]) (fun t ht _ => ⟨_, _, _, _, _, _, rfl, hp, by rw [ht]; exact hW⟩) hL d C.2.2.2.2.2.1
theorem z_aret (C : Cx p l e Rm s m args below meth c G cc nL own ret) {P : Option Value → Nat → (Nat → Nat) → (Nat → Nat) → MI → MR → Prop} {rt : FieldType} {r : Option Nat} (hr : ret = some rt) (hrt : (∃ n, rt = .object n) ∨ ∃ t, rt = .array t) (d : decode cc pc = .ok (.areturn, 1)) (hp : P (some (va_rf r)) z K N I R) : Zq p l e Rm s m args below meth c G nL (zQ p l e Rm s m args below meth c G P cells slots) cells slots z K N I R pc lv [va_rf r] := fun H locs ls hW hL hl hd =>
  W.aret (rt := rt) C.1 C.2.1 (by rw [C.2.2.2.2.2.2.1, hr]) hrt (by cases r with | none => exact Or.inl rfl | some a => exact Or.inr ⟨a, rfl⟩) (fun t ht _ => ⟨_, _, _, _, _, _, rfl, hp, by rw [ht]; exact hW⟩) hL d C.2.2.2.2.2.1

theorem z_iret2 (C : Cx p l e Rm s m args below meth c G cc nL own ret) {P : Option Value → Nat → (Nat → Nat) → (Nat → Nat) → MI → MR → Prop} {x : Int} (hQ : Q = zQ p l e Rm s m args below meth c G P cells slots) (hr : ret = some .int) (d : decode cc pc = .ok (.ireturn, 1)) (hp : P (some (.int (zI x))) z K N I R) : Zq p l e Rm s m args below meth c G nL Q cells slots z K N I R pc lv [.int (zI x)] := by subst hQ; exact z_iret C hr d hp
theorem z_zret2 (C : Cx p l e Rm s m args below meth c G cc nL own ret) {P : Option Value → Nat → (Nat → Nat) → (Nat → Nat) → MI → MR → Prop} {x : Int} (hQ : Q = zQ p l e Rm s m args below meth c G P cells slots) (hr : ret = some .boolean) (hx : x = 0 ∨ x = 1) (d : decode cc pc = .ok (.ireturn, 1)) (hp : P (some (.int (zI x))) z K N I R) : Zq p l e Rm s m args below meth c G nL Q cells slots z K N I R pc lv [.int (zI x)] := by subst hQ; exact z_zret C hr hx d hp
theorem z_vret2 (C : Cx p l e Rm s m args below meth c G cc nL own ret) {P : Option Value → Nat → (Nat → Nat) → (Nat → Nat) → MI → MR → Prop} (hQ : Q = zQ p l e Rm s m args below meth c G P cells slots) (hr : ret = none) (d : decode cc pc = .ok (.return_, 1)) (hp : P none z K N I R) : Zq p l e Rm s m args below meth c G nL Q cells slots z K N I R pc lv [] := by subst hQ; exact z_vret C hr d hp
theorem z_aret2 (C : Cx p l e Rm s m args below meth c G cc nL own ret) {P : Option Value → Nat → (Nat → Nat) → (Nat → Nat) → MI → MR → Prop} {rt : FieldType} {r : Option Nat} (hQ : Q = zQ p l e Rm s m args below meth c G P cells slots) (hr : ret = some rt) (hrt : (∃ n, rt = .object n) ∨ ∃ t, rt = .array t) (d : decode cc pc = .ok (.areturn, 1)) (hp : P (some (va_rf r)) z K N I R) : Zq p l e Rm s m args below meth c G nL Q cells slots z K N I R pc lv [va_rf r] := by subst hQ; exact z_aret C hr hrt d hp
theorem z_conv {I' : MI} {R' : MR} {lv' : List (Nat × Value)} {st' : List Value} (h1 : I = I') (h2 : R = R') (h3 : lv = lv') (h4 : st = st') (k : Zq p l e Rm s m args below meth c G nL Q cells slots z K N I' R' pc lv' st') : Zq p l e Rm s m args below meth c G nL Q cells slots z K N I R pc lv st := by subst h1; subst h2; subst h3; subst h4; exact k
theorem znw {G : GG} (h : Wv G s) (i : Nat) {w : String × Nat × MethodName × String} (hw : znwM[i]? = some w) : va_Nw (.methodLinkNest w.1 w.2.1 w.2.2.1 w.2.2.2) s := h.2.2.2.1 w (List.mem_of_getElem? hw)
theorem zs_l : ∀ n : Fin 32, ((zI n.val &&& 31).toBitVec.smod 32).toNat = n.val := by decide +kernel
theorem zI_shr {x j : Int} (hj : 0 ≤ j ∧ j < 31) (hx : -2147483648 ≤ x ∧ x < 2147483648) : zI x >>> (zI j &&& 31) = zI (x / 2 ^ j.toNat) := by
  obtain ⟨n, rfl⟩ := Int.eq_ofNat_of_zero_le hj.1
  have h1 := pk_shr (zI x) (zI n &&& 31) n (zs_l ⟨n, by omega⟩)
  apply Int32.toInt_inj.mp
  rw [h1, zI_int hx, Int.shiftRight_eq_div_pow]
  have hp : (1 : Int) ≤ 2 ^ n := by exact_mod_cast Nat.one_le_two_pow
  have e : ((n : Int)).toNat = n := rfl
  rw [e]
  have h2 : ((2 ^ n : Nat) : Int) = 2 ^ n := by push_cast; rfl
  rw [h2, zI_int]
  refine ⟨?_, ?_⟩
  · have := Int.le_ediv_of_mul_le (a := -2147483648) (b := x) (c := 2 ^ n) (by omega) (by
      have : (-2147483648 : Int) * 2 ^ n ≤ -2147483648 * 1 := by
        exact Int.mul_le_mul_of_nonpos_left (by omega) hp
      omega)
    exact this
  · apply Int.ediv_lt_of_lt_mul (by omega)
    have : (2147483648 : Int) * 1 ≤ 2147483648 * 2 ^ n := Int.mul_le_mul_of_nonneg_left hp (by omega)
    omega
theorem zI_shl1 : ∀ n : Fin 31, zI 1 <<< (zI n.val &&& 31) = zI (2 ^ n.val) := by decide +kernel
theorem zI_shl {j : Int} (hj : 0 ≤ j ∧ j < 31) : zI 1 <<< (zI j &&& 31) = zI (2 ^ j.toNat) := by
  obtain ⟨n, rfl⟩ := Int.eq_ofNat_of_zero_le hj.1
  exact zI_shl1 ⟨n, by omega⟩
theorem zI_bv (x : Int) : (zI x).toBitVec = BitVec.ofInt 32 x := rfl
theorem zI_and1 (y : Int) : zI y &&& zI 1 = zI (y % 2) := by
  apply Int32.toBitVec_inj.mp
  rw [Int32.toBitVec_and, zI_bv, zI_bv, zI_bv]
  apply BitVec.eq_of_toNat_eq
  rw [BitVec.toNat_and, BitVec.toNat_ofInt, BitVec.toNat_ofInt, BitVec.toNat_ofInt]
  have e : ((1 : Int) % ((2 ^ 32 : Nat) : Int)).toNat = 1 := by decide +kernel
  rw [e, Nat.and_one_is_mod]
  have e2 : ((2 ^ 32 : Nat) : Int) = 4294967296 := by decide +kernel
  rw [e2]
  omega

/-- a contract, from the walk of the method's body -/
theorem Con.of {G : GG} {l : Launch} {y : MethodName} {own : String} {ws : List Cond} {rm : Room} {mc ms : Nat} {av : List Value} {z : Nat} {K N : Nat → Nat} {I : MI} {R : MR} {P : Option Value → Nat → (Nat → Nat) → (Nat → Nat) → MI → MR → Prop} {cc : ByteArray} {maxL : Nat} {ret : Option FieldType} (hy : plainName y.cls = true) (ho : y.cls = own) (hw : ws = Cond.code y cc maxL ret :: wsL_law) (hm : (lg_sl av).length ≤ maxL) (h16 : maxL < 2 ^ 16) (hd : lvd (lv_args 0 av) = true)
    (body : ∀ (p : Program) (e : Env) (s : State) (m : MethodId) (args : Array Value) (below : List Frame) (meth : Method) (c : Code) (Q : State → Prop), (y.name = "<init>" → meth.name = "<init>") → Q = zQ p l e rm s m args below meth c G P mc ms → Cx p l e rm s m args below meth c G cc maxL own ret → Zq p l e rm s m args below meth c G maxL Q 0 0 z K N I R 0 (lv_args 0 av) []) : Con l G y ws rm mc ms av z K N I R P := by
  refine Met.ofW (cc := cc) (maxL := maxL) (ret := ret) hy hw ?_
  intro p e s m args below meth c s₁ B hml hv
  obtain ⟨rfl, hWv, hWh⟩ := hv
  have hown : s.vm.findClass own = some m.cls := by rw [← ho]; exact findClass_of_methodNamed B.named
  have hts0 := atoms_spec (ws := ws) B.pre
  have hts : ∀ w ∈ wsL_law, w.before av.toArray s = true := fun w h => hts0 w (by rw [hw]; exact List.mem_cons_of_mem _ h)
  have hname := (name_of_methodNamed B.named B.method).1
  have hl := lv_entry av (n := maxL) hm
  rw [lg_entry_eq]
  exact body p e s m av.toArray below meth c _ (fun h => by rw [hname]; exact h) rfl ⟨B.exec, B.bytes, hml, hown, hts, B.notSynchronized, B.returns, hWv, h16⟩ s.heap [] _ hWh (fun q h => by cases h) hl hd
end ZR
