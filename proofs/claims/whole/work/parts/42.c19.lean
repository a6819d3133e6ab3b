def sh32 (x y : Int32) : Int32 := (x.toUInt32 >>> (y.toUInt32 &&& Int32.toUInt32 31)).toInt32
def bc1 (x : Int32) : Int32 := x - (sh32 x (zI 1) &&& zI 1431655765)
def bc2 (x : Int32) : Int32 := (x &&& zI 858993459) + (sh32 x (zI 2) &&& zI 858993459)
def bc3 (x : Int32) : Int32 := (x + sh32 x (zI 4)) &&& zI 252645135
def bc4 (x : Int32) : Int32 := x + sh32 x (zI 8)
def bc5 (x : Int32) : Int32 := (x + sh32 x (zI 16)) &&& zI 63
def bcE (x : Int32) : Int32 := bc5 (bc4 (bc3 (bc2 (bc1 x))))
set_option maxRecDepth 100000 in
theorem bc_0 : ∀ h : Fin 32, ∀ l : Fin 128, bcE (zI ((128 * (0 + h.val) + l.val : Nat) : Int)) = zI (popS ((128 * (0 + h.val) + l.val : Nat) : Int) 14) := by decide +kernel
set_option maxRecDepth 100000 in
theorem bc_1 : ∀ h : Fin 32, ∀ l : Fin 128, bcE (zI ((128 * (32 + h.val) + l.val : Nat) : Int)) = zI (popS ((128 * (32 + h.val) + l.val : Nat) : Int) 14) := by decide +kernel
set_option maxRecDepth 100000 in
theorem bc_2 : ∀ h : Fin 32, ∀ l : Fin 128, bcE (zI ((128 * (64 + h.val) + l.val : Nat) : Int)) = zI (popS ((128 * (64 + h.val) + l.val : Nat) : Int) 14) := by decide +kernel
set_option maxRecDepth 100000 in
theorem bc_3 : ∀ h : Fin 32, ∀ l : Fin 128, bcE (zI ((128 * (96 + h.val) + l.val : Nat) : Int)) = zI (popS ((128 * (96 + h.val) + l.val : Nat) : Int) 14) := by decide +kernel
theorem bc_all {v : Int} (hv : 0 ≤ v ∧ v < 16384) : bcE (zI v) = zI (popS v 14) := by
  obtain ⟨n, rfl⟩ := Int.eq_ofNat_of_zero_le hv.1
  have hl : n % 128 < 128 := Nat.mod_lt _ (by omega)
  by_cases h0 : n < 4096
  · have e := bc_0 ⟨n / 128, by omega⟩ ⟨n % 128, hl⟩
    simp only at e
    rwa [show 128 * (0 + n / 128) + n % 128 = n by omega] at e
  · by_cases h1 : n < 8192
    · have e := bc_1 ⟨n / 128 - 32, by omega⟩ ⟨n % 128, hl⟩
      simp only at e
      rwa [show 128 * (32 + (n / 128 - 32)) + n % 128 = n by omega] at e
    · by_cases h2 : n < 12288
      · have e := bc_2 ⟨n / 128 - 64, by omega⟩ ⟨n % 128, hl⟩
        simp only at e
        rwa [show 128 * (64 + (n / 128 - 64)) + n % 128 = n by omega] at e
      · have e := bc_3 ⟨n / 128 - 96, by omega⟩ ⟨n % 128, hl⟩
        simp only at e
        rwa [show 128 * (96 + (n / 128 - 96)) + n % 128 = n by omega] at e
