/-! the order of the rings, a test -/
def insQ (F : Nat → Int) (a : Nat → Nat) (r : Nat) : Nat → Nat
  | 0 => 0
  | q + 1 => if F (a q) ≤ F r then q + 1 else insQ F a r q
def ordC (F : Nat → Int) : Nat → Nat → Nat
  | 0 => fun _ => 0
  | n + 1 => fun j => if j < insQ F (ordC F n) n n then ordC F n j else if j = insQ F (ordC F n) n n then n else ordC F n (j - 1)
theorem insQ_le (F : Nat → Int) (a : Nat → Nat) (r : Nat) : ∀ q, insQ F a r q ≤ q
  | 0 => Nat.le_refl 0
  | q + 1 => by
    unfold insQ
    split
    · omega
    · have := insQ_le F a r q; omega
theorem insQ_hi (F : Nat → Int) (a : Nat → Nat) (r : Nat) : ∀ q j, insQ F a r q ≤ j → j < q → F r < F (a j)
  | 0, j, _, h => by omega
  | q + 1, j, h1, h2 => by
    unfold insQ at h1
    split at h1
    · omega
    · by_cases e : j = q
      · subst e; omega
      · exact insQ_hi F a r q j h1 (by omega)
theorem insQ_lo (F : Nat → Int) (a : Nat → Nat) (r : Nat) : ∀ q, 0 < insQ F a r q → F (a (insQ F a r q - 1)) ≤ F r
  | 0, h => by simp [insQ] at h
  | q + 1, h => by
    unfold insQ at h ⊢
    split
    · simpa using ‹_›
    · rename_i hn
      rw [if_neg hn] at h
      exact insQ_lo F a r q h
theorem ordC_lt (F : Nat → Int) : ∀ n j, j < n → ordC F n j < n
  | 0, j, h => by omega
  | n + 1, j, h => by
    have hq := insQ_le F (ordC F n) n n
    show (if j < insQ F (ordC F n) n n then ordC F n j else if j = insQ F (ordC F n) n n then n else ordC F n (j - 1)) < n + 1
    split
    · have := ordC_lt F n j (by omega); omega
    · split
      · omega
      · have := ordC_lt F n (j - 1) (by omega); omega
/-- before, in the order of a test -/
def lexb (F : Nat → Int) (i j : Nat) : Prop := F i < F j ∨ (F i = F j ∧ i < j)
theorem lexb_tr {F : Nat → Int} {i j k : Nat} (h1 : lexb F i j) (h2 : lexb F j k) : lexb F i k := by unfold lexb at *; omega
theorem ordC_sort (F : Nat → Int) : ∀ n i j, i < j → j < n → lexb F (ordC F n i) (ordC F n j)
  | 0, i, j, _, h => by omega
  | n + 1, i, j, hij, hj => by
    have hq := insQ_le F (ordC F n) n n
    have ih := ordC_sort F n
    have hi := insQ_hi F (ordC F n) n n
    have hlo := insQ_lo F (ordC F n) n n
    show lexb F (if i < insQ F (ordC F n) n n then ordC F n i else if i = insQ F (ordC F n) n n then n else ordC F n (i - 1)) (if j < insQ F (ordC F n) n n then ordC F n j else if j = insQ F (ordC F n) n n then n else ordC F n (j - 1))
    generalize insQ F (ordC F n) n n = q at hq hi hlo ⊢
    have lowq : ∀ k, k < q → lexb F (ordC F n k) n := by
      intro k hk
      have h1 := hlo (by omega)
      have h2 := ordC_lt F n k (by omega)
      by_cases e : k = q - 1
      · subst e
        unfold lexb
        rcases Int.lt_or_eq_of_le h1 with h | h
        · exact Or.inl h
        · exact Or.inr ⟨h, h2⟩
      · have h3 := ih k (q - 1) (by omega) (by omega)
        unfold lexb at h3 ⊢
        rcases h3 with h3 | h3
        · exact Or.inl (by omega)
        · rcases Int.lt_or_eq_of_le h1 with h | h
          · exact Or.inl (by omega)
          · exact Or.inr ⟨by omega, h2⟩
    by_cases a1 : i < q
    · rw [if_pos a1]
      by_cases b1 : j < q
      · rw [if_pos b1]; exact ih i j hij (by omega)
      · rw [if_neg b1]
        by_cases b2 : j = q
        · rw [if_pos b2]; exact lowq i a1
        · rw [if_neg b2]
          exact ih i (j - 1) (by omega) (by omega)
    · rw [if_neg a1, if_neg (show ¬ j < q by omega), if_neg (show ¬ j = q by omega)]
      by_cases a2 : i = q
      · rw [if_pos a2]
        exact Or.inl (hi (j - 1) (by omega) (by omega))
      · rw [if_neg a2]
        exact ih (i - 1) (j - 1) (by omega) (by omega)
theorem ordC_inj (F : Nat → Int) {n i j : Nat} (hi : i < n) (hj : j < n) (e : ordC F n i = ordC F n j) : i = j := by
  rcases Nat.lt_trichotomy i j with h | h | h
  · have := ordC_sort F n i j h hj
    rw [e] at this
    unfold lexb at this; omega
  · exact h
  · have := ordC_sort F n j i h hi
    rw [e] at this
    unfold lexb at this; omega
def rowO (F : Nat → Int) (n : Nat) (old : Nat → Int) : Nat → Int := fun j => if j < n then (ordC F n j : Int) else old j
def rowB (F : Nat → Int) (r q : Nat) (old : Nat → Int) : Nat → Int := fun j => if j ≤ q then (if j < r then (ordC F r j : Int) else old j) else if j ≤ r then (ordC F r (j - 1) : Int) else old j
theorem rowB_0 (F : Nat → Int) (r : Nat) (old : Nat → Int) : rowB F r r old = rowO F r old := by
  funext j
  unfold rowB rowO
  by_cases h : j ≤ r
  · rw [if_pos h]
  · rw [if_neg h, if_neg h, if_neg (by omega)]
theorem rowB_at {F : Nat → Int} {r q : Nat} {old : Nat → Int} (h : 0 < q) (h2 : q ≤ r) : rowB F r q old (q - 1) = (ordC F r (q - 1) : Int) := by
  unfold rowB
  rw [if_pos (by omega), if_pos (by omega)]
theorem rowB_s {F : Nat → Int} {r q : Nat} {old : Nat → Int} (h : 0 < q) (h2 : q ≤ r) : st1 (rowB F r q old) q (ordC F r (q - 1) : Int) = rowB F r (q - 1) old := by
  funext j
  unfold st1 rowB
  by_cases e : j = q
  · rw [if_pos e, if_neg (by omega), if_pos (by omega), e]
  · rw [if_neg e]
    by_cases h3 : j ≤ q
    · rw [if_pos h3, if_pos (show j ≤ q - 1 by omega)]
    · rw [if_neg h3, if_neg (show ¬ j ≤ q - 1 by omega)]
theorem rowB_e {F : Nat → Int} {r q : Nat} {old : Nat → Int} (h2 : q ≤ r) (e : insQ F (ordC F r) r r = q) : st1 (rowB F r q old) q (r : Int) = rowO F (r + 1) old := by
  funext j
  unfold st1 rowB rowO
  have eo : ∀ j, ordC F (r + 1) j = if j < q then ordC F r j else if j = q then r else ordC F r (j - 1) := by
    intro j
    show (if j < insQ F (ordC F r) r r then ordC F r j else if j = insQ F (ordC F r) r r then r else ordC F r (j - 1)) = _
    rw [e]
  by_cases h1 : j = q
  · rw [if_pos h1, if_pos (by omega), eo, if_neg (by omega), if_pos h1]
  · rw [if_neg h1]
    by_cases h3 : j ≤ q
    · rw [if_pos h3, if_pos (by omega), if_pos (by omega), eo, if_pos (by omega)]
    · rw [if_neg h3]
      by_cases h4 : j ≤ r
      · rw [if_pos h4, if_pos (by omega), eo, if_neg (by omega), if_neg h1]
      · rw [if_neg h4, if_neg (by omega)]
def cumS (F : Nat → Int) (n : Nat) : Nat → Int
  | 0 => 0
  | k + 1 => cumS F n k + F (ordC F n k)
/-- how many rings are stacked behind step k of a test, which ring moves in it -/
def cntK (n k : Nat) : Nat := if k ≤ n then k else 2 * n - k
def rngK (F : Nat → Int) (n k : Nat) : Nat := ordC F n (if k < n then k else 2 * n - 1 - k)
def tprN (F : Nat → Int) (n : Nat) (air area : Int) (k : Nat) : Int := prs (100 + cumS F n (cntK n (k + 1))) air area
def tpr (f : Nat → Int) : Nat → Int := tprN (fun r => f (6 + r)) (f 3).toNat (f 0) (f 1)
def hnd (pr : Nat → Int) (e pl : Int) : Nat → Int
  | 0 => 0
  | k + 1 => goes (hnd pr e pl k) (pr k) e pl
def rdg (pr : Nat → Int) (e pl sp : Int) (k : Nat) : Int := rnd (hnd pr e pl (k + 1)) sp * sp
def wrg (pr : Nat → Int) (e pl sp : Int) (k : Nat) : Int := absz (rdg pr e pl sp k - pr k)
def grt (w : Nat → Int) : Nat → Int
  | 0 => -1
  | k + 1 => if grt w k < w k then w k else grt w k
def wst (w : Nat → Int) : Nat → Int
  | 0 => 0
  | k + 1 => if grt w k < w k then (k : Int) else wst w k
def ssK (F : Nat → Int) (n : Nat) : Nat → Int
  | 0 => 0
  | k + 1 => flipb (ssK F n k) (rngK F n k)
theorem flip_bit {a : Int} (ha : 0 ≤ a) (r i : Nat) : (flipb a r / 2 ^ i % 2 = 1) ↔ (if i = r then ¬ a / 2 ^ i % 2 = 1 else a / 2 ^ i % 2 = 1) := by
  obtain ⟨k, rfl⟩ := Int.eq_ofNat_of_zero_le ha
  rw [← nat_flip, natbit, natbit, Nat.testBit_xor, Nat.testBit_two_pow]
  by_cases h : i = r
  · subst h; simp
  · have h2 : ¬ r = i := fun e => h e.symm
    simp [h, h2]
theorem massS_flip {F : Nat → Int} {a : Int} (ha : 0 ≤ a) (r : Nat) : ∀ n, massS F (flipb a r) n = massS F a n + if r < n then (if a / 2 ^ r % 2 = 1 then - F r else F r) else 0
  | 0 => by simp [massS]
  | n + 1 => by
    have ih := massS_flip (F := F) ha r n
    have hb := flip_bit ha r n
    unfold massS
    rw [ih]
    by_cases h : n = r
    · subst h
      rw [if_neg (by omega), if_pos (by omega)]
      rw [if_pos rfl] at hb
      by_cases h1 : a / 2 ^ n % 2 = 1
      · have h2 : flipb a n / 2 ^ n % 2 = 0 := by
          have : ¬ flipb a n / 2 ^ n % 2 = 1 := fun z => (hb.mp z) h1
          omega
        rw [if_pos h1, h1, h2]; omega
      · have h2 := hb.mpr h1
        have h3 : a / 2 ^ n % 2 = 0 := by omega
        rw [if_neg h1, h2, h3]; omega
    · rw [if_neg h] at hb
      have h2 : flipb a r / 2 ^ n % 2 = a / 2 ^ n % 2 := by
        by_cases h1 : a / 2 ^ n % 2 = 1
        · rw [hb.mpr h1, h1]
        · have : ¬ flipb a r / 2 ^ n % 2 = 1 := fun z => h1 (hb.mp z)
          omega
      rw [h2]
      by_cases h4 : r < n
      · rw [if_pos h4, if_pos (show r < n + 1 by omega), Int.add_right_comm]
      · rw [if_neg h4, if_neg (show ¬ r < n + 1 by omega), Int.add_zero, Int.add_zero]
theorem massS_0 (F : Nat → Int) : ∀ n, massS F 0 n = 100
  | 0 => rfl
  | n + 1 => by
    unfold massS
    rw [massS_0 F n]
    simp
theorem rngK_lt (F : Nat → Int) {n k : Nat} (h : k < 2 * n) : rngK F n k < n := by
  unfold rngK
  split
  · exact ordC_lt F n _ (by omega)
  · exact ordC_lt F n _ (by omega)
theorem ssK_all (F : Nat → Int) (n : Nat) : ∀ k, k ≤ 2 * n → (0 ≤ ssK F n k ∧ ssK F n k < 2 ^ n) ∧ massS F (ssK F n k) n = 100 + cumS F n (cntK n k) ∧ ∀ j, j < n → (ssK F n k / 2 ^ (ordC F n j) % 2 = 1 ↔ j < cntK n k)
  | 0, _ => by
    refine ⟨⟨by simp [ssK], by simpa [ssK] using pow_pos2 n⟩, by simp [ssK, massS_0, cntK, cumS], fun j hj => ?_⟩
    simp [ssK, cntK]
  | k + 1, hk => by
    obtain ⟨h1, h2, h3⟩ := ssK_all F n k (by omega)
    have hr := rngK_lt F (n := n) (k := k) (by omega)
    have hf := flip_rng h1 hr
    have hm := massS_flip (F := F) h1.1 (rngK F n k) n
    show (0 ≤ flipb (ssK F n k) (rngK F n k) ∧ flipb (ssK F n k) (rngK F n k) < 2 ^ n) ∧ massS F (flipb (ssK F n k) (rngK F n k)) n = _ ∧ ∀ j, j < n → (flipb (ssK F n k) (rngK F n k) / 2 ^ (ordC F n j) % 2 = 1 ↔ _)
    rw [hm, h2, if_pos hr]
    by_cases hn : k < n
    · have er : rngK F n k = ordC F n k := by unfold rngK; rw [if_pos hn]
      have ec : cntK n k = k := if_pos (by omega)
      have ec2 : cntK n (k + 1) = k + 1 := if_pos (by omega)
      rw [er] at hf ⊢
      have hb : ¬ ssK F n k / 2 ^ (ordC F n k) % 2 = 1 := fun z => by have := (h3 k hn).mp z; omega
      refine ⟨hf, ?_, fun j hj => ?_⟩
      · rw [if_neg hb, ec, ec2]
        show _ = 100 + (cumS F n k + F (ordC F n k))
        omega
      · rw [flip_bit h1.1, ec2]
        by_cases hjk : j = k
        · subst hjk
          rw [if_pos rfl]
          exact ⟨fun _ => by omega, fun _ => hb⟩
        · rw [if_neg (fun e => hjk (ordC_inj F hj hn e)), h3 j hj, ec]
          omega
    · have er : rngK F n k = ordC F n (2 * n - 1 - k) := by unfold rngK; rw [if_neg hn]
      have ec : cntK n k = 2 * n - k := by unfold cntK; split <;> omega
      have ec2 : cntK n (k + 1) = 2 * n - 1 - k := by unfold cntK; split <;> omega
      rw [er] at hf ⊢
      have hb : ssK F n k / 2 ^ (ordC F n (2 * n - 1 - k)) % 2 = 1 := (h3 _ (by omega)).mpr (by omega)
      refine ⟨hf, ?_, fun j hj => ?_⟩
      · rw [if_pos hb, ec, ec2]
        have e : 2 * n - k = (2 * n - 1 - k) + 1 := by omega
        rw [e]
        show _ = 100 + cumS F n (2 * n - 1 - k)
        rw [show cumS F n (2 * n - 1 - k + 1) = cumS F n (2 * n - 1 - k) + F (ordC F n (2 * n - 1 - k)) from rfl]
        omega
      · rw [flip_bit h1.1, ec2]
        by_cases hjk : j = 2 * n - 1 - k
        · subst hjk
          rw [if_pos rfl]
          exact ⟨fun z => absurd hb z, fun z => by omega⟩
        · rw [if_neg (fun e => hjk (ordC_inj F hj (by omega) e)), h3 j hj, ec]
          omega
theorem tpr_eq {f : Nat → Int} (k : Nat) (hk : k < 2 * (f 3).toNat) : prsA f (ssK (fun r => f (6 + r)) (f 3).toNat (k + 1)) = tpr f k := by
  have h := (ssK_all (fun r => f (6 + r)) (f 3).toNat (k + 1) (by omega)).2.1
  unfold prsA massA tpr tprN
  rw [h]
theorem tpr_rng {f : Nat → Int} (h : Ok f) {k : Nat} (hk : k < 2 * (f 3).toNat) : 0 ≤ tpr f k ∧ tpr f k ≤ 14008600 := by
  rw [← tpr_eq k hk]; exact prsA_rng h _
theorem hnd_rng {pr : Nat → Int} {e pl : Int} {n : Nat} (hp : ∀ k, k < n → 0 ≤ pr k ∧ pr k ≤ 14008600) (he : -99 ≤ e ∧ e ≤ 99) (hl : 0 ≤ pl ∧ pl ≤ 99) : ∀ k, k ≤ n → 0 ≤ hnd pr e pl k ∧ hnd pr e pl k ≤ 16000000
  | 0, _ => by simp [hnd]
  | k + 1, h => by
    have ih := hnd_rng hp he hl k (by omega)
    exact goes_rng (hp k (by omega)) he hl ih
theorem rdg_rng {h b : Int} (hh : 0 ≤ h ∧ h ≤ 16000000) (hb : 1 ≤ b ∧ b ≤ 99) : 0 ≤ rnd h b * b ∧ rnd h b * b ≤ 16000198 := by
  obtain ⟨r1, r2, r3⟩ := rnd_rng (b := b) hh.1 (by omega)
  have h1 : h / b * b ≤ h := Int.ediv_mul_le h (by omega)
  have h2 : rnd h b * b ≤ (h / b + 1) * b := Int.mul_le_mul_of_nonneg_right r2 (by omega)
  rw [Int.add_mul, Int.one_mul] at h2
  exact ⟨Int.mul_nonneg r1 (by omega), by omega⟩
theorem grt_rng {w : Nat → Int} {n : Nat} {m : Int} (hw : ∀ k, k < n → 0 ≤ w k ∧ w k ≤ m) (hm : 0 ≤ m) : ∀ k, k ≤ n → -1 ≤ grt w k ∧ grt w k ≤ m
  | 0, _ => by simp [grt]; omega
  | k + 1, h => by
    have ih := grt_rng hw hm k (by omega)
    have := hw k (by omega)
    unfold grt
    split <;> omega
