/-! places are the order: a sum over the rings, in the order of the rings -/
def smG (g : Nat → Int) : Nat → Int
  | 0 => 0
  | n + 1 => smG g n + g n
theorem smG_s (g : Nat → Int) (n : Nat) : smG g (n + 1) = smG g n + g n := rfl
theorem smG_cong {g g' : Nat → Int} : ∀ n : Nat, (∀ j : Nat, j < n → g' j = g j) → smG g' n = smG g n
  | 0, _ => rfl
  | n + 1, h => by rw [smG_s, smG_s, smG_cong n fun j hj => h j (by omega), h n (by omega)]
theorem ordC_s (F : Nat → Int) (n j : Nat) : ordC F (n + 1) j = if j < insQ F (ordC F n) n n then ordC F n j else if j = insQ F (ordC F n) n n then n else ordC F n (j - 1) := rfl
theorem smG_ins (F : Nat → Int) (g : Nat → Int) (n : Nat) : ∀ k : Nat, smG (fun j => g (ordC F (n + 1) j)) k = if k ≤ insQ F (ordC F n) n n then smG (fun j => g (ordC F n j)) k else smG (fun j => g (ordC F n j)) (k - 1) + g n
  | 0 => by rw [if_pos (by omega)]; rfl
  | k + 1 => by
    rw [smG_s, smG_ins F g n k]
    show (_ : Int) + g (ordC F (n + 1) k) = _
    rw [ordC_s]
    by_cases h1 : k < insQ F (ordC F n) n n
    · rw [if_pos (by omega), if_pos h1, if_pos (by omega)]; rfl
    · rw [if_neg h1, if_neg (show ¬ k + 1 ≤ insQ F (ordC F n) n n by omega)]
      by_cases h2 : k = insQ F (ordC F n) n n
      · rw [if_pos (by omega), if_pos h2, Nat.add_sub_cancel]
      · rw [if_neg (by omega), if_neg h2, Nat.add_sub_cancel]
        obtain ⟨q, rfl⟩ : ∃ q, k = q + 1 := ⟨k - 1, by omega⟩
        rw [Nat.add_sub_cancel, smG_s]
        omega
theorem smG_ord (F : Nat → Int) (g : Nat → Int) : ∀ n : Nat, smG (fun j => g (ordC F n j)) n = smG g n
  | 0 => rfl
  | n + 1 => by
    have hq := insQ_le F (ordC F n) n n
    rw [smG_ins, if_neg (by omega), Nat.add_sub_cancel, smG_ord F g n, smG_s]
theorem ordC_on (F : Nat → Int) : ∀ n r : Nat, r < n → ∃ j : Nat, j < n ∧ ordC F n j = r
  | 0, r, h => by omega
  | n + 1, r, h => by
    have hq := insQ_le F (ordC F n) n n
    by_cases hr : r = n
    · refine ⟨insQ F (ordC F n) n n, by omega, ?_⟩
      rw [ordC_s, if_neg (by omega), if_pos rfl, hr]
    · obtain ⟨j, hj, e⟩ := ordC_on F n r (by omega)
      by_cases h1 : j < insQ F (ordC F n) n n
      · exact ⟨j, by omega, by rw [ordC_s, if_pos h1]; exact e⟩
      · refine ⟨j + 1, by omega, ?_⟩
        rw [ordC_s, if_neg (by omega), if_neg (by omega), Nat.add_sub_cancel]
        exact e
theorem smG_lt (k : Nat) : ∀ n : Nat, smG (fun j => b2i (j < k)) n = if n ≤ k then (n : Int) else k
  | 0 => by rw [if_pos (by omega)]; rfl
  | n + 1 => by
    rw [smG_s, smG_lt k n]
    by_cases h : n < k
    · rw [if_pos (by omega), if_pos (by omega), b2i_t h]; omega
    · rw [if_neg (by omega : ¬ n + 1 ≤ k), b2i_f h]
      split <;> omega
theorem plT_sm (F : Nat → Int) (r : Nat) : ∀ n : Nat, plT F r n = smG (fun i => b2i (F i < F r ∨ (F i = F r ∧ i < r))) n
  | 0 => rfl
  | n + 1 => by rw [plT_s, plT_sm F r n]; rfl
theorem plT_ord (F : Nat → Int) {n k : Nat} (hk : k < n) : plT F (ordC F n k) n = k := by
  rw [plT_sm, ← smG_ord F _ n]
  rw [smG_cong (g := fun j => b2i (j < k)) n fun j hj => ?_, smG_lt, if_neg (by omega)]
  have key : (F (ordC F n j) < F (ordC F n k) ∨ (F (ordC F n j) = F (ordC F n k) ∧ ordC F n j < ordC F n k)) ↔ j < k := by
    constructor
    · intro h
      by_cases h1 : j < k
      · exact h1
      · by_cases h2 : j = k
        · subst h2; omega
        · have := ordC_sort F n k j (by omega) hj
          unfold lexb at this
          omega
    · intro h
      have := ordC_sort F n j k h hk
      unfold lexb at this
      omega
  exact b2i_iff key
theorem plcK_e (F : Nat → Int) (n r : Nat) : ∀ q k : Nat, k < q → q ≤ n → ordC F n k = r → plcK F n r q = k
  | 0, k, h, _, _ => by omega
  | q + 1, k, h, hq, e => by
    unfold plcK
    by_cases h2 : k = q
    · subst h2; rw [if_pos e]
    · rw [if_neg, plcK_e F n r q k (by omega) (by omega) e]
      intro z
      have h3 := plT_ord F (n := n) (k := k) (by omega)
      have h4 := plT_ord F (n := n) (k := q) (by omega)
      rw [e] at h3
      rw [z] at h4
      omega
/-- the place of a ring: counted, or found in the order -/
theorem plT_plc (F : Nat → Int) {n r : Nat} (hr : r < n) : plT F r n = plcK F n r n := by
  obtain ⟨k, hk, e⟩ := ordC_on F n r hr
  rw [plcK_e F n r n k hk (Nat.le_refl n) e, ← e]
  exact plT_ord F hk
/-- the rings sorted by their places -/
def srtR (F : Nat → Int) (n : Nat) (old : Nat → Int) : Nat → (Nat → Int)
  | 0 => old
  | i + 1 => st1 (srtR F n old i) (plT F i n).toNat (F i)
theorem srtR_s (F : Nat → Int) (n : Nat) (old : Nat → Int) (i : Nat) : srtR F n old (i + 1) = st1 (srtR F n old i) (plT F i n).toNat (F i) := rfl
theorem srtR_a (F : Nat → Int) {n k : Nat} (old : Nat → Int) (hk : k < n) : ∀ i : Nat, i ≤ n → ordC F n k < i → srtR F n old i k = F (ordC F n k)
  | 0, _, h => by omega
  | i + 1, hi, h => by
    rw [srtR_s]
    by_cases e : ordC F n k = i
    · have h3 := plT_ord F hk
      rw [e] at h3
      rw [show k = (plT F i n).toNat by omega, st1_s, show (plT F i n).toNat = k by omega, e]
    · obtain ⟨q, hq, e2⟩ := ordC_on F n i (by omega)
      have h3 := plT_ord F hq
      rw [e2] at h3
      have hne : k ≠ q := fun z => e (by rw [z]; exact e2)
      rw [st1_n (by omega)]
      exact srtR_a F old hk i (by omega) (by omega)
theorem srtR_at (F : Nat → Int) {n k : Nat} (old : Nat → Int) (hk : k < n) : srtR F n old n k = F (ordC F n k) := srtR_a F old hk n (Nat.le_refl n) (ordC_lt F n k hk)
theorem smG_cum (F : Nat → Int) {n : Nat} (old : Nat → Int) : ∀ k : Nat, k ≤ n → smG (srtR F n old n) k = cumS F n k
  | 0, _ => rfl
  | k + 1, h => by
    rw [smG_s, smG_cum F old k (by omega), srtR_at F old (by omega)]
    rfl
