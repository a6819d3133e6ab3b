/-! the model's changes, row by row -/
abbrev isVal (s v : Int) : Prop := (s = 0 ∧ 0 ≤ v ∧ v ≤ 9) ∨ (s = 1 ∧ 1 ≤ v ∧ v ≤ 99) ∨ (s = 2 ∧ 0 ≤ v ∧ v ≤ 999)
def setsV (f : Nat → Int) (s : Nat) (v : Int) : Nat → Int := if s = 1 then voidsF (st1 f s v) else st1 f s v
def setsF (f : Nat → Int) (s : Nat) (v : Int) : Nat → Int := handsF (setsV f s v)
def comesF (f : Nat → Int) (v : Int) : Nat → Int := voidsF (st1 (st1 f (6 + (f 3).toNat) v) 3 (f 3 + 1))
def loseV (f : Nat → Int) : Nat → Int := voidsF (st1 (st1 (st1 f 3 (f 3 - 1)) (6 + (f 3 - 1).toNat) 0) 4 (clrb (f 4) (f 3 - 1).toNat))
def loseF (f : Nat → Int) : Nat → Int := handsF (loseV f)
def movV (f : Nat → Int) (r : Nat) : Nat → Int := st1 f 4 (flipb (f 4) r)
def moveF (f : Nat → Int) (r : Nat) : Nat → Int := handsF (movV f r)
def zeroK (g k : Nat) (f : Nat → Int) : Nat → Int := fun j => if 20 + 36 * g ≤ j ∧ j < 20 + 36 * g + k then 0 else f j
def handG (f : Nat → Int) (g : Nat) : Nat → Int := st1 f (23 + 36 * g) (goes (f (23 + 36 * g)) (prsA f (f 4)) (f (20 + 36 * g)) (f (21 + 36 * g)))
def gaugeV (f : Nat → Int) (g : Nat) (e p s : Int) : Nat → Int := st1 (st1 (st1 (st1 (zeroK g 36 f) (20 + 36 * g) e) (21 + 36 * g) p) (22 + 36 * g) s) 5 (f 5 + 1)
def gaugeF (f : Nat → Int) (e p s : Int) : Nat → Int := handG (gaugeV f (f 5).toNat e p s) (f 5).toNat
def tuneV (f : Nat → Int) (g : Nat) (e : Int) : Nat → Int := voidF g (st1 f (20 + 36 * g) e)
def tuneF (f : Nat → Int) (g : Nat) (e : Int) : Nat → Int := handG (tuneV f g e) g
theorem Ok.set {f : Nat → Int} (h : Ok f) {s : Nat} {v : Int} (hv : isVal s v) : Ok (st1 f s v) := by
  obtain ⟨a0, a1, a2, a3, a4, a5, a6, a7⟩ := h
  have h2 : ∀ j : Nat, 3 ≤ j → st1 f s v j = f j := fun j hj => st1_n (by rcases hv with h | h | h <;> omega)
  unfold Ok
  rw [h2 3 (by omega), h2 4 (by omega), h2 5 (by omega)]
  refine ⟨?_, ?_, ?_, a3, a4, a5, fun r hr => by rw [h2 _ (by omega)]; exact a6 r hr, fun g hg => by rw [h2 _ (by omega), h2 _ (by omega), h2 _ (by omega), h2 _ (by omega), h2 _ (by omega)]; exact a7 g hg⟩
  · unfold st1; split
    · rcases hv with h | h | h <;> omega
    · exact a0
  · unfold st1; split
    · rcases hv with h | h | h <;> omega
    · exact a1
  · unfold st1; split
    · rcases hv with h | h | h <;> omega
    · exact a2
theorem Ok.h_setsV {f : Nat → Int} (h : Ok f) {s : Nat} {v : Int} (hv : isVal s v) : Ok (setsV f s v) := by
  unfold setsV
  split
  · exact (h.set hv).voids
  · exact h.set hv
theorem Ok.h_handsF {f : Nat → Int} (h : Ok f) : Ok (handsF f) := h.hands (prsA_rng h _) _
theorem pow_le {a b : Nat} (h : a ≤ b) : (2 : Int) ^ a ≤ 2 ^ b := by
  have h1 := Nat.pow_le_pow_right (show 0 < 2 by omega) h
  have e : ∀ n : Nat, ((2 ^ n : Nat) : Int) = 2 ^ n := fun n => by push_cast; rfl
  rw [← e, ← e]
  exact_mod_cast h1
theorem pow_pos2 (a : Nat) : (0 : Int) < 2 ^ a := by
  have := pow_le (Nat.zero_le a)
  have e : (2 : Int) ^ 0 = 1 := rfl
  omega
theorem pow_s (a : Nat) : (2 : Int) ^ (a + 1) = 2 * 2 ^ a := by rw [Int.pow_succ, Int.mul_comm]
theorem Ok.comes {f : Nat → Int} (h : Ok f) (h14 : f 3 < 14) {v : Int} (hv : 1 ≤ v ∧ v ≤ 9999) : Ok (comesF f v) := by
  refine Ok.voids ?_
  obtain ⟨a0, a1, a2, a3, a4, a5, a6, a7⟩ := h
  have h2 : ∀ j : Nat, j ≠ 3 → j ≠ 6 + (f 3).toNat → st1 (st1 f (6 + (f 3).toNat) v) 3 (f 3 + 1) j = f j := fun j h1 h2 => by rw [st1_n h1, st1_n h2]
  unfold Ok
  rw [st1_s, h2 0 (by omega) (by omega), h2 1 (by omega) (by omega), h2 2 (by omega) (by omega), h2 4 (by omega) (by omega), h2 5 (by omega) (by omega)]
  refine ⟨a0, a1, a2, by omega, ?_, a5, fun r hr => ?_, fun g hg => by rw [h2 _ (by omega) (by omega), h2 _ (by omega) (by omega), h2 _ (by omega) (by omega), h2 _ (by omega) (by omega), h2 _ (by omega) (by omega)]; exact a7 g hg⟩
  · rw [show (f 3 + 1).toNat = (f 3).toNat + 1 by omega, pow_s]
    omega
  · rw [st1_n (by omega)]
    by_cases hr2 : r = (f 3).toNat
    · rw [hr2, st1_s]; exact hv
    · rw [st1_n (by omega)]; exact a6 r (by omega)
theorem flip_rng {a : Int} {r n : Nat} (ha : 0 ≤ a ∧ a < 2 ^ n) (hr : r < n) : 0 ≤ flipb a r ∧ flipb a r < 2 ^ n := by
  obtain ⟨k, rfl⟩ := Int.eq_ofNat_of_zero_le ha.1
  have e : ∀ n : Nat, ((2 ^ n : Nat) : Int) = 2 ^ n := fun n => by push_cast; rfl
  have hk : k < 2 ^ n := by have := ha.2; rw [← e] at this; exact_mod_cast this
  rw [← nat_flip]
  have h1 : k ^^^ 2 ^ r < 2 ^ n := Nat.xor_lt_two_pow hk (Nat.pow_lt_pow_right (by omega) hr)
  rw [← e]
  exact ⟨by omega, by exact_mod_cast h1⟩
theorem clr_rng {a : Int} {n : Nat} (ha : 0 ≤ a ∧ a < 2 ^ (n + 1)) : 0 ≤ clrb a n ∧ clrb a n < 2 ^ n := by
  rw [pow_s] at ha
  have hp := pow_pos2 n
  have hd := Int.mul_ediv_add_emod a (2 ^ n)
  have hm0 := Int.emod_nonneg a (show (2 : Int) ^ n ≠ 0 by omega)
  have hm1 := Int.emod_lt_of_pos a hp
  have hq0 : 0 ≤ a / 2 ^ n := Int.ediv_nonneg ha.1 (by omega)
  have hq1 : a / 2 ^ n < 2 := Int.ediv_lt_of_lt_mul hp (by omega)
  unfold clrb
  rcases (show a / 2 ^ n = 0 ∨ a / 2 ^ n = 1 by omega) with e | e
  · rw [e] at hd ⊢
    rw [if_neg (by omega)]
    rw [Int.mul_zero] at hd
    omega
  · rw [e] at hd ⊢
    rw [if_pos (by omega)]
    rw [Int.mul_one] at hd
    omega
theorem Ok.h_loseV {f : Nat → Int} (h : Ok f) (h0 : 0 < f 3) : Ok (loseV f) := by
  refine Ok.voids ?_
  obtain ⟨a0, a1, a2, a3, a4, a5, a6, a7⟩ := h
  have h2 : ∀ j : Nat, j ≠ 3 → j ≠ 4 → j ≠ 6 + (f 3 - 1).toNat → st1 (st1 (st1 f 3 (f 3 - 1)) (6 + (f 3 - 1).toNat) 0) 4 (clrb (f 4) (f 3 - 1).toNat) j = f j := fun j h1 h2 h3 => by rw [st1_n h2, st1_n h3, st1_n h1]
  have h3 : st1 (st1 (st1 f 3 (f 3 - 1)) (6 + (f 3 - 1).toNat) 0) 4 (clrb (f 4) (f 3 - 1).toNat) 3 = f 3 - 1 := by rw [st1_n (by omega), st1_n (by omega), st1_s]
  unfold Ok
  rw [h3, st1_s, h2 0 (by omega) (by omega) (by omega), h2 1 (by omega) (by omega) (by omega), h2 2 (by omega) (by omega) (by omega), h2 5 (by omega) (by omega) (by omega)]
  refine ⟨a0, a1, a2, by omega, ?_, a5, fun r hr => by rw [h2 _ (by omega) (by omega) (by omega)]; exact a6 r (by omega), fun g hg => by rw [h2 _ (by omega) (by omega) (by omega), h2 _ (by omega) (by omega) (by omega), h2 _ (by omega) (by omega) (by omega), h2 _ (by omega) (by omega) (by omega), h2 _ (by omega) (by omega) (by omega)]; exact a7 g hg⟩
  exact clr_rng (by rw [show (f 3 - 1).toNat + 1 = (f 3).toNat by omega]; exact a4)
theorem Ok.h_movV {f : Nat → Int} (h : Ok f) {r : Nat} (hr : (r : Int) < f 3) : Ok (movV f r) := by
  obtain ⟨a0, a1, a2, a3, a4, a5, a6, a7⟩ := h
  have h2 : ∀ j : Nat, j ≠ 4 → movV f r j = f j := fun j h1 => st1_n h1
  unfold Ok
  rw [h2 0 (by omega), h2 1 (by omega), h2 2 (by omega), h2 3 (by omega), h2 5 (by omega)]
  refine ⟨a0, a1, a2, a3, ?_, a5, fun q hq => by rw [h2 _ (by omega)]; exact a6 q hq, fun g hg => by rw [h2 _ (by omega), h2 _ (by omega), h2 _ (by omega), h2 _ (by omega), h2 _ (by omega)]; exact a7 g hg⟩
  rw [show movV f r 4 = flipb (f 4) r from st1_s _ _ _]
  exact flip_rng a4 (by omega)
theorem Ok.h_gaugeV {f : Nat → Int} (h : Ok f) (h6 : f 5 < 6) {e p s : Int} (he : -99 ≤ e ∧ e ≤ 99) (hp : 0 ≤ p ∧ p ≤ 99) (hs : 1 ≤ s ∧ s ≤ 99) : Ok (gaugeV f (f 5).toNat e p s) := by
  obtain ⟨a0, a1, a2, a3, a4, a5, a6, a7⟩ := h
  have h2 : ∀ j : Nat, j ≠ 5 → (j < 20 + 36 * (f 5).toNat ∨ 56 + 36 * (f 5).toNat ≤ j) → gaugeV f (f 5).toNat e p s j = f j := fun j h1 h2 => by
    unfold gaugeV
    rw [st1_n h1, st1_n (by omega), st1_n (by omega), st1_n (by omega)]
    exact if_neg (by omega)
  unfold Ok
  rw [h2 0 (by omega) (by omega), h2 1 (by omega) (by omega), h2 2 (by omega) (by omega), h2 3 (by omega) (by omega), h2 4 (by omega) (by omega), show gaugeV f (f 5).toNat e p s 5 = f 5 + 1 from st1_s _ _ _]
  refine ⟨a0, a1, a2, a3, a4, by omega, fun q hq => by rw [h2 _ (by omega) (by omega)]; exact a6 q hq, fun g hg => ?_⟩
  by_cases hg2 : g = (f 5).toNat
  · subst hg2
    unfold gaugeV
    refine ⟨?_, ?_, ?_, ?_, ?_⟩
    · rw [st1_n (by omega), st1_n (by omega), st1_n (by omega), st1_s]; exact he
    · rw [st1_n (by omega), st1_n (by omega), st1_s]; exact hp
    · rw [st1_n (by omega), st1_s]; exact hs
    · rw [st1_n (by omega), st1_n (by omega), st1_n (by omega), st1_n (by omega), show zeroK (f 5).toNat 36 f (23 + 36 * (f 5).toNat) = 0 from if_pos (by omega)]; omega
    · rw [st1_n (by omega), st1_n (by omega), st1_n (by omega), st1_n (by omega)]; exact Or.inl (if_pos (by omega))
  · rw [h2 _ (by omega) (by omega), h2 _ (by omega) (by omega), h2 _ (by omega) (by omega), h2 _ (by omega) (by omega), h2 _ (by omega) (by omega)]
    exact a7 g (by omega)
theorem Ok.h_handG {f : Nat → Int} (h : Ok f) {g : Nat} (hg : (g : Int) < f 5) : Ok (handG f g) := by
  obtain ⟨c1, c2, c3, c4, c5⟩ := h.2.2.2.2.2.2.2 g hg
  refine h.cong (fun j hj => st1_n (by omega)) fun q hq => ?_
  obtain ⟨d1, d2, d3, d4, d5⟩ := h.2.2.2.2.2.2.2 q hq
  refine ⟨st1_n (by omega), st1_n (by omega), st1_n (by omega), ?_, ?_⟩
  · unfold handG st1
    split
    · exact goes_rng (prsA_rng h _) c1 c2 c4
    · exact d4
  · rw [show handG f g (24 + 36 * q) = f (24 + 36 * q) from st1_n (by omega)]; exact d5
theorem Ok.h_tuneV {f : Nat → Int} (h : Ok f) (g : Nat) {e : Int} (he : -99 ≤ e ∧ e ≤ 99) : Ok (tuneV f g e) := by
  refine Ok.voidG ?_ g
  obtain ⟨a0, a1, a2, a3, a4, a5, a6, a7⟩ := h
  have h2 : ∀ j : Nat, j ≠ 20 + 36 * g → st1 f (20 + 36 * g) e j = f j := fun j h1 => st1_n h1
  unfold Ok
  rw [h2 0 (by omega), h2 1 (by omega), h2 2 (by omega), h2 3 (by omega), h2 4 (by omega), h2 5 (by omega)]
  refine ⟨a0, a1, a2, a3, a4, a5, fun q hq => by rw [h2 _ (by omega)]; exact a6 q hq, fun q hq => ?_⟩
  obtain ⟨d1, d2, d3, d4, d5⟩ := a7 q hq
  rw [h2 (21 + 36 * q) (by omega), h2 (22 + 36 * q) (by omega), h2 (23 + 36 * q) (by omega), h2 (24 + 36 * q) (by omega)]
  refine ⟨?_, d2, d3, d4, d5⟩
  unfold st1
  split
  · exact he
  · exact d1
