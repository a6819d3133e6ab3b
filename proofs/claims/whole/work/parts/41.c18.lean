/-! the mass runs with the sets of rings -/
theorem div_sh (k : Int) (n : Nat) : k / 2 / 2 ^ n = k / 2 ^ (n + 1) := by
  rw [Int.pow_succ, Int.mul_comm, Int.ediv_ediv_of_nonneg (by omega)]
theorem massS_low (F : Nat → Int) (k : Int) : ∀ n : Nat, massS F k (n + 1) = massS (fun j => F (j + 1)) (k / 2) n + k % 2 * F 0
  | 0 => by
    show (100 : Int) + k / 2 ^ 0 % 2 * F 0 = 100 + k % 2 * F 0
    rw [Int.pow_zero, Int.ediv_one]
  | n + 1 => by
    have ih := massS_low F k n
    have e1 : massS F k (n + 1 + 1) = massS F k (n + 1) + k / 2 ^ (n + 1) % 2 * F (n + 1) := rfl
    have e2 : massS (fun j => F (j + 1)) (k / 2) (n + 1) = massS (fun j => F (j + 1)) (k / 2) n + k / 2 / 2 ^ n % 2 * F (n + 1) := rfl
    rw [e1, e2, ih, div_sh]
    omega
theorem mnL_sh (F : Nat → Int) (k : Int) (n : Nat) : ∀ (q i : Nat) (g : Int), mnL F k (n + 1) q (i + 1) g = mnL (fun j => F (j + 1)) (k / 2) n q i g
  | 0, _, _ => rfl
  | q + 1, i, g => by
    rw [mnL_s, mnL_s, div_sh, mnL_sh F k n q (i + 1)]
    by_cases h : i < n
    · rw [if_pos h, if_pos (show i + 1 < n + 1 by omega)]
    · rw [if_neg h, if_neg (show ¬ i + 1 < n + 1 by omega)]
theorem mnL_g (F : Nat → Int) (k : Int) (n : Nat) : ∀ (q i : Nat) (g : Int), mnL F k n q i g = g + mnL F k n q i 0
  | 0, _, g => by show g = g + 0; omega
  | q + 1, i, g => by
    rw [mnL_s, mnL_s]
    by_cases h : i < n
    · rw [if_pos h, if_pos h]
      by_cases h2 : k / 2 ^ i % 2 = 1
      · rw [if_pos h2, if_pos h2, mnL_g F k n q (i + 1) (g - F i), mnL_g F k n q (i + 1) (0 - F i)]; omega
      · rw [if_neg h2, if_neg h2]; omega
    · rw [if_neg h, if_neg h]; omega
theorem massS_next : ∀ (n q : Nat) (F : Nat → Int) (k : Int), n ≤ q → massS F (k + 1) n = massS F k n + mnL F k n (q + 1) 0 0
  | 0, q, F, k, _ => by
    rw [mnL_s, if_neg (by omega)]
    show (100 : Int) = 100 + 0
    omega
  | n + 1, q, F, k, h => by
    obtain ⟨q, rfl⟩ : ∃ j, q = j + 1 := ⟨q - 1, by omega⟩
    rw [massS_low, massS_low, mnL_s, if_pos (by omega), Int.pow_zero, Int.ediv_one]
    by_cases h2 : k % 2 = 1
    · rw [if_pos h2, mnL_sh, mnL_g, show (k + 1) / 2 = k / 2 + 1 by omega, show (k + 1) % 2 = 0 by omega, h2, massS_next n q _ (k / 2) (by omega)]
      omega
    · rw [if_neg h2, show (k + 1) / 2 = k / 2 by omega, show (k + 1) % 2 = 1 by omega, show k % 2 = 0 by omega]
      omega
theorem massS_mnT {F : Nat → Int} {n : Nat} (h : n ≤ 14) (k : Int) : massS F (k + 1) n = massS F k n + mnT F k n := massS_next n 14 F k h
