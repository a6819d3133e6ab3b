/-! what the methods answer, in whole numbers -/
def b2i (p : Prop) [Decidable p] : Int := if p then 1 else 0
theorem b2i_t {p : Prop} [Decidable p] (h : p) : b2i p = 1 := if_pos h
theorem b2i_f {p : Prop} [Decidable p] (h : ¬ p) : b2i p = 0 := if_neg h
theorem b2i_01 {p : Prop} [Decidable p] : 0 ≤ b2i p ∧ b2i p ≤ 1 := by unfold b2i; split <;> omega
theorem b2i_c {p : Prop} [Decidable p] : b2i p = 0 ∨ b2i p = 1 := by unfold b2i; split <;> omega
theorem zr {x y : Int} (h : x = y) : some (Value.int (zI x)) = some (Value.int (zI y)) := by rw [h]
theorem u2_va {α : Type} (f : Nat → Nat → α) (a k : Nat) (g : Nat → α) (v : α) : u2 (va_up f a g) a k v = va_up f a (fun j => if j = k then v else g j) := by
  funext b j
  by_cases hb : b = a
  · subst hb
    by_cases hj : j = k <;> simp [u2, va_up, hj]
  · simp [u2, va_up, hb]
theorem u2_up {α : Type} (f : Nat → Nat → α) (a k : Nat) (v : α) : u2 f a k v = va_up f a (fun j => if j = k then v else f a j) := by
  funext b j
  by_cases hb : b = a
  · subst hb
    by_cases hj : j = k <;> simp [u2, va_up, hj]
  · simp [u2, va_up, hb]
theorem va_up2 {α : Type} (f : Nat → α) (a : Nat) (v w : α) : va_up (va_up f a v) a w = va_up f a w := by
  funext b
  by_cases hb : b = a <;> simp [va_up, hb]
theorem va_upS {α : Type} (f : Nat → α) (a : Nat) : va_up f a (f a) = f := by
  funext b
  by_cases hb : b = a <;> simp [va_up, hb]
def rnd (v b : Int) : Int := v / b + b2i (v % b ≥ b - v % b)
def massS (F : Nat → Int) (sm : Int) : Nat → Int
  | 0 => 100
  | n + 1 => massS F sm n + sm / 2 ^ n % 2 * F n
def wgt (m air : Int) : Int := m - rnd (m * (100 + 5 * air)) 100000
def prs (m air area : Int) : Int := wgt m air * 100 / area
def massA (f : Nat → Int) (sm : Int) : Int := massS (fun r => f (6 + r)) sm (f 3).toNat
def prsA (f : Nat → Int) (sm : Int) : Int := prs (massA f sm) (f 0) (f 1)
def absz (x : Int) : Int := if x < 0 then -x else x
def tru (p e : Int) : Int := if e < 0 then p - p * absz e / 1000 else p + p * absz e / 1000
def goes (h p e pl : Int) : Int := if h < tru p e - pl then tru p e - pl else if tru p e + pl < h then tru p e + pl else h
/-- a state in the row of the model -/
def Ok (f : Nat → Int) : Prop :=
  (0 ≤ f 0 ∧ f 0 ≤ 9) ∧ (1 ≤ f 1 ∧ f 1 ≤ 99) ∧ (0 ≤ f 2 ∧ f 2 ≤ 999) ∧ (0 ≤ f 3 ∧ f 3 ≤ 14) ∧ (0 ≤ f 4 ∧ f 4 < 2 ^ (f 3).toNat) ∧ (0 ≤ f 5 ∧ f 5 ≤ 6) ∧
  (∀ r : Nat, (r : Int) < f 3 → 1 ≤ f (6 + r) ∧ f (6 + r) ≤ 9999) ∧
  ∀ g : Nat, (g : Int) < f 5 → (-99 ≤ f (20 + 36 * g) ∧ f (20 + 36 * g) ≤ 99) ∧ (0 ≤ f (21 + 36 * g) ∧ f (21 + 36 * g) ≤ 99) ∧ (1 ≤ f (22 + 36 * g) ∧ f (22 + 36 * g) ≤ 99) ∧ (0 ≤ f (23 + 36 * g) ∧ f (23 + 36 * g) ≤ 16000000) ∧ (f (24 + 36 * g) = 0 ∨ f (24 + 36 * g) = 1)
theorem Ok4 {f : Nat → Int} (h : Ok f) : 0 ≤ f 4 ∧ f 4 < 16384 := by
  have h3 := h.2.2.2.1
  have h4 := h.2.2.2.2.1
  have h5 : (2 : Nat) ^ (f 3).toNat ≤ 2 ^ 14 := Nat.pow_le_pow_right (by omega) (by omega)
  have h6 : ((2 ^ (f 3).toNat : Nat) : Int) = 2 ^ (f 3).toNat := by push_cast; rfl
  omega
theorem bit01 (x : Int) : x % 2 = 0 ∨ x % 2 = 1 := by omega
theorem massS_rng {F : Nat → Int} {sm : Int} : ∀ n : Nat, (∀ r : Nat, r < n → 0 ≤ F r ∧ F r ≤ 9999) → 100 ≤ massS F sm n ∧ massS F sm n ≤ 100 + 9999 * n
  | 0, _ => by simp [massS]
  | n + 1, h => by
    have ih := massS_rng (sm := sm) n fun r hr => h r (by omega)
    have h1 := h n (by omega)
    unfold massS
    rcases bit01 (sm / 2 ^ n) with e | e <;> rw [e] <;> omega
theorem massA_rng {f : Nat → Int} (h : Ok f) (sm : Int) : 100 ≤ massA f sm ∧ massA f sm ≤ 140086 := by
  have h3 := h.2.2.2.1
  have := massS_rng (F := fun r => f (6 + r)) (sm := sm) (f 3).toNat fun r hr => by
    have := h.2.2.2.2.2.2.1 r (by omega); exact ⟨by omega, by omega⟩
  unfold massA
  omega
theorem rnd_rng {v b : Int} (hv : 0 ≤ v) (hb : 0 < b) : 0 ≤ rnd v b ∧ rnd v b ≤ v / b + 1 ∧ rnd v b ≤ v + 1 := by
  have h1 := Int.ediv_nonneg hv (Int.le_of_lt hb)
  have h2 := b2i_01 (p := v % b ≥ b - v % b)
  have h3 : v / b ≤ v := Int.ediv_le_self b hv
  unfold rnd
  omega
theorem air_rng {m air : Int} (hm : 100 ≤ m ∧ m ≤ 140086) (ha : 0 ≤ air ∧ air ≤ 9) : 0 ≤ m * (100 + 5 * air) ∧ m * (100 + 5 * air) ≤ 20312470 ∧ m * (100 + 5 * air) ≤ 145 * m := by
  have h1 : m * (100 + 5 * air) ≤ m * 145 := Int.mul_le_mul_of_nonneg_left (by omega) (by omega)
  have h2 : 0 ≤ m * (100 + 5 * air) := Int.mul_nonneg (by omega) (by omega)
  omega
theorem wgt_rng {m air : Int} (hm : 100 ≤ m ∧ m ≤ 140086) (ha : 0 ≤ air ∧ air ≤ 9) : 99 ≤ wgt m air ∧ wgt m air ≤ m := by
  obtain ⟨h1, h2, h3⟩ := air_rng hm ha
  obtain ⟨r1, r2, r3⟩ := rnd_rng (b := 100000) h1 (by omega)
  unfold wgt
  omega
theorem prs_rng {m air area : Int} (hm : 100 ≤ m ∧ m ≤ 140086) (ha : 0 ≤ air ∧ air ≤ 9) (hr : 1 ≤ area ∧ area ≤ 99) : 0 ≤ prs m air area ∧ prs m air area ≤ 14008600 := by
  obtain ⟨h1, h2⟩ := wgt_rng hm ha
  have h3 : 0 ≤ wgt m air * 100 := by omega
  have h4 : wgt m air * 100 / area ≤ wgt m air * 100 := Int.ediv_le_self area h3
  have h5 := Int.ediv_nonneg h3 (show 0 ≤ area by omega)
  unfold prs
  omega
theorem prsA_rng {f : Nat → Int} (h : Ok f) (sm : Int) : 0 ≤ prsA f sm ∧ prsA f sm ≤ 14008600 := prs_rng (massA_rng h sm) h.1 h.2.1
theorem tru_rng {p e : Int} (hp : 0 ≤ p ∧ p ≤ 14008600) (he : -99 ≤ e ∧ e ≤ 99) : (0 ≤ p * absz e ∧ p * absz e ≤ 1386851400) ∧ 0 ≤ tru p e ∧ tru p e ≤ 15500000 := by
  have ha : 0 ≤ absz e ∧ absz e ≤ 99 := by unfold absz; split <;> omega
  have h1 : p * absz e ≤ p * 99 := Int.mul_le_mul_of_nonneg_left (by omega) (by omega)
  have h2 : 0 ≤ p * absz e := Int.mul_nonneg (by omega) (by omega)
  refine ⟨by omega, ?_⟩
  unfold tru
  split <;> omega
theorem goes_rng {h p e pl : Int} (hp : 0 ≤ p ∧ p ≤ 14008600) (he : -99 ≤ e ∧ e ≤ 99) (hl : 0 ≤ pl ∧ pl ≤ 99) (hh : 0 ≤ h ∧ h ≤ 16000000) : 0 ≤ goes h p e pl ∧ goes h p e pl ≤ 16000000 := by
  have h1 := (tru_rng hp he).2
  unfold goes
  split
  · omega
  · split <;> omega
/-- the model's object o, its rows behind it -/
def ShM (G : GG) (z : Nat) (K N : Nat → Nat) (R : MR) (o : Nat) : Prop :=
  zK G z K o 7 ∧ (R o 0 = some (o + 1) ∧ R o 1 = some (o + 2) ∧ R o 3 = some (o + 3) ∧ R o 4 = some (o + 4) ∧ R o 5 = some (o + 5) ∧ R o 7 = some (o + 6) ∧ R o 8 = some (o + 7)) ∧
  (zK G z K (o + 1) 9 ∧ zK G z K (o + 2) 9 ∧ zK G z K (o + 3) 9 ∧ zK G z K (o + 4) 9 ∧ zK G z K (o + 5) 9 ∧ zK G z K (o + 6) 9 ∧ zK G z K (o + 7) 9) ∧
  (N (o + 1) = 236 ∧ N (o + 2) = 1416 ∧ N (o + 3) = 472 ∧ N (o + 4) = 2 ∧ N (o + 5) = 80 ∧ N (o + 6) = 14 ∧ N (o + 7) = 28)
def st1 (f : Nat → Int) (k : Nat) (v : Int) : Nat → Int := fun j => if j = k then v else f j
theorem st1_s (f : Nat → Int) (k : Nat) (v : Int) : st1 f k v k = v := if_pos rfl
theorem st1_n {f : Nat → Int} {k j : Nat} {v : Int} (h : j ≠ k) : st1 f k v j = f j := if_neg h
theorem u2_st (I : MI) (a k : Nat) (v : Int) : u2 I a k v = va_up I a (st1 (I a) k v) := u2_up I a k v
theorem u2_vst (I : MI) (a k : Nat) (f : Nat → Int) (v : Int) : u2 (va_up I a f) a k v = va_up I a (st1 f k v) := u2_va I a k f v
def handsP (P : Int) (n : Nat) (f : Nat → Int) : Nat → Int := fun j => if 23 ≤ j ∧ (j - 23) % 36 = 0 ∧ (j - 23) / 36 < n then goes (f j) P (f (j - 3)) (f (j - 2)) else f j
def handsF (f : Nat → Int) : Nat → Int := handsP (prsA f (f 4)) (f 5).toNat f
def voidK (g k : Nat) (f : Nat → Int) : Nat → Int := fun j => if 24 + 36 * g ≤ j ∧ j < 20 + 36 * g + k then 0 else f j
def voidF (g : Nat) (f : Nat → Int) : Nat → Int := voidK g 36 f
def voidN (n : Nat) (f : Nat → Int) : Nat → Int := fun j => if 20 ≤ j ∧ j < 20 + 36 * n ∧ 4 ≤ (j - 20) % 36 then 0 else f j
def voidsF (f : Nat → Int) : Nat → Int := voidN 6 f
theorem massS_cong {F F' : Nat → Int} {sm : Int} : ∀ n : Nat, (∀ r : Nat, r < n → F' r = F r) → massS F' sm n = massS F sm n
  | 0, _ => rfl
  | n + 1, h => by
    unfold massS
    rw [massS_cong n fun r hr => h r (by omega), h n (by omega)]
theorem prsA_cong {f f' : Nat → Int} {sm : Int} (h3 : f 3 ≤ 14) (h : ∀ j : Nat, j < 20 → f' j = f j) : prsA f' sm = prsA f sm := by
  unfold prsA massA
  rw [h 0 (by omega), h 1 (by omega), h 3 (by omega), massS_cong (f 3).toNat fun r hr => h (6 + r) (by omega)]
theorem handsP_lo {P : Int} {n : Nat} {f : Nat → Int} {j : Nat} (h : j < 23) : handsP P n f j = f j := if_neg (by omega)
theorem Ok.cong {f f' : Nat → Int} (h : Ok f) (h1 : ∀ j : Nat, j < 20 → f' j = f j) (h2 : ∀ g : Nat, (g : Int) < f 5 → f' (20 + 36 * g) = f (20 + 36 * g) ∧ f' (21 + 36 * g) = f (21 + 36 * g) ∧ f' (22 + 36 * g) = f (22 + 36 * g) ∧ (0 ≤ f' (23 + 36 * g) ∧ f' (23 + 36 * g) ≤ 16000000) ∧ (f' (24 + 36 * g) = 0 ∨ f' (24 + 36 * g) = 1)) : Ok f' := by
  obtain ⟨a0, a1, a2, a3, a4, a5, a6, a7⟩ := h
  unfold Ok
  rw [h1 0 (by omega), h1 1 (by omega), h1 2 (by omega), h1 3 (by omega), h1 4 (by omega), h1 5 (by omega)]
  refine ⟨a0, a1, a2, a3, a4, a5, fun r hr => by rw [h1 (6 + r) (by omega)]; exact a6 r hr, fun g hg => ?_⟩
  obtain ⟨b1, b2, b3, b4, b5⟩ := h2 g hg
  obtain ⟨c1, c2, c3, -, -⟩ := a7 g hg
  exact ⟨by rw [b1]; exact c1, by rw [b2]; exact c2, by rw [b3]; exact c3, b4, b5⟩
theorem Ok.hands {f : Nat → Int} (h : Ok f) {P : Int} (hP : 0 ≤ P ∧ P ≤ 14008600) (n : Nat) : Ok (handsP P n f) := by
  refine h.cong (fun j hj => handsP_lo (by omega)) fun g hg => ?_
  obtain ⟨c1, c2, c3, c4, c5⟩ := h.2.2.2.2.2.2.2 g hg
  refine ⟨if_neg (by omega), if_neg (by omega), if_neg (by omega), ?_, ?_⟩
  · unfold handsP
    split
    · rw [show 23 + 36 * g - 3 = 20 + 36 * g by omega, show 23 + 36 * g - 2 = 21 + 36 * g by omega]
      exact goes_rng hP c1 c2 c4
    · exact c4
  · rw [show handsP P n f (24 + 36 * g) = f (24 + 36 * g) from if_neg (by omega)]
    exact c5
theorem hands_step (I : MI) (a : Nat) {P : Int} {f : Nat → Int} (i : Nat) : u2 (va_up I a (handsP P i f)) a (23 + 36 * i) (goes (handsP P i f (23 + 36 * i)) P (handsP P i f (20 + 36 * i)) (handsP P i f (21 + 36 * i))) = va_up I a (handsP P (i + 1) f) := by
  rw [u2_vst]
  congr 1
  funext j
  have e1 : handsP P i f (20 + 36 * i) = f (20 + 36 * i) := if_neg (by omega)
  have e2 : handsP P i f (21 + 36 * i) = f (21 + 36 * i) := if_neg (by omega)
  have e3 : handsP P i f (23 + 36 * i) = f (23 + 36 * i) := if_neg (by omega)
  rw [e1, e2, e3]
  by_cases hj : j = 23 + 36 * i
  · subst hj
    rw [st1_s]
    unfold handsP
    rw [if_pos (by omega), show 23 + 36 * i - 3 = 20 + 36 * i by omega, show 23 + 36 * i - 2 = 21 + 36 * i by omega]
  · rw [st1_n hj]
    unfold handsP
    by_cases h : 23 ≤ j ∧ (j - 23) % 36 = 0 ∧ (j - 23) / 36 < i
    · rw [if_pos h, if_pos (by omega)]
    · rw [if_neg h, if_neg (by omega)]
theorem void_step (I : MI) (a g k : Nat) (f : Nat → Int) (hk : 4 ≤ k) : u2 (va_up I a (voidK g k f)) a (20 + 36 * g + k) 0 = va_up I a (voidK g (k + 1) f) := by
  rw [u2_vst]
  congr 1
  funext j
  unfold st1 voidK
  by_cases hj : j = 20 + 36 * g + k
  · rw [if_pos hj, if_pos (by omega)]
  · rw [if_neg hj]
    by_cases h : 24 + 36 * g ≤ j ∧ j < 20 + 36 * g + k
    · rw [if_pos h, if_pos (by omega)]
    · rw [if_neg h, if_neg (by omega)]
theorem void_0 (g : Nat) (f : Nat → Int) : voidK g 4 f = f := by
  funext j
  exact if_neg (by omega)
theorem voidN_0 (f : Nat → Int) : voidN 0 f = f := by
  funext j
  exact if_neg (by omega)
theorem voidN_step (n : Nat) (f : Nat → Int) : voidF n (voidN n f) = voidN (n + 1) f := by
  funext j
  unfold voidF voidK voidN
  by_cases h1 : 24 + 36 * n ≤ j ∧ j < 20 + 36 * n + 36
  · rw [if_pos h1, if_pos (by omega)]
  · rw [if_neg h1]
    by_cases h2 : 20 ≤ j ∧ j < 20 + 36 * n ∧ 4 ≤ (j - 20) % 36
    · rw [if_pos h2, if_pos (by omega)]
    · rw [if_neg h2, if_neg (by omega)]
theorem Ok.voidG {f : Nat → Int} (h : Ok f) (g : Nat) : Ok (voidF g f) := by
  refine h.cong (fun j hj => if_neg (by omega)) fun q hq => ?_
  obtain ⟨c1, c2, c3, c4, c5⟩ := h.2.2.2.2.2.2.2 q hq
  refine ⟨if_neg (by omega), if_neg (by omega), if_neg (by omega), ?_, ?_⟩
  · rw [show voidF g f (23 + 36 * q) = f (23 + 36 * q) from if_neg (by omega)]; exact c4
  · unfold voidF voidK; split
    · exact Or.inl rfl
    · exact c5
theorem Ok.voids {f : Nat → Int} (h : Ok f) : Ok (voidsF f) := by
  refine h.cong (fun j hj => if_neg (by omega)) fun q hq => ?_
  obtain ⟨c1, c2, c3, c4, c5⟩ := h.2.2.2.2.2.2.2 q hq
  refine ⟨if_neg (by omega), if_neg (by omega), if_neg (by omega), ?_, ?_⟩
  · rw [show voidsF f (23 + 36 * q) = f (23 + 36 * q) from if_neg (by omega)]; exact c4
  · unfold voidsF voidN; split
    · exact Or.inl rfl
    · exact c5
def certN (f : Nat → Int) : Nat → Int
  | 0 => 0
  | g + 1 => certN f g + f (24 + 36 * g)
/-- a row of 236 in another array -/
def movF (s d : Nat → Int) (f t : Nat) : Nat → Int := fun j => if t ≤ j ∧ j < t + 236 then s (f + (j - t)) else d j
def recS (h : Nat → Int) (n : Int) : Nat → Int := fun j => if n = 6 ∧ j < 1180 then h (j + 236) else h j
def recN (n : Int) : Int := if n = 6 then 5 else n
def recH (f h : Nat → Int) (n : Int) : Nat → Int := movF f (recS h n) 0 (236 * recN n).toNat
/-- the model's memory behind record() -/
def recM (I : MI) (o : Nat) : MI := u2 (va_up I (o + 2) (recH (I (o + 1)) (I (o + 2)) (I o 2))) o 2 (recN (I o 2) + 1)
