theorem z_gen {p : Program} {l : Launch} {e : Env} {Rm : Room} {s : State} {m : MethodId} {args : Array Value} {below : List Frame} {meth : Method} {c : Code} {G : GG} {nL : Nat} {Q : State → Prop} {cells slots z : Nat} {K N : Nat → Nat} {I : MI} {R : MR} {pc : Nat} {lv : List (Nat × Value)} {st : List Value} (P : MI → MR → Prop) (hP : P I R) (k : ∀ (I' : MI) (R' : MR), P I' R' → Zq p l e Rm s m args below meth c G nL Q cells slots z K N I' R' pc lv st) : Zq p l e Rm s m args below meth c G nL Q cells slots z K N I R pc lv st := k I R hP
/-! the public changes -/
def FrM (x z : Nat) (K N : Nat → Nat) (I : MI) (R : MR) (z' : Nat) (K' N' : Nat → Nat) (I' : MI) (R' : MR) : Prop :=
  z ≤ z' ∧ (∀ a : Nat, a < z → K' a = K a ∧ N' a = N a) ∧ ∀ a : Nat, x + 92 ≤ a → a < x + 100 → I' a = I a ∧ R' a = R a
def aSet (f : Nat → Int) (sg vl : Int) : Int := if isVal sg vl then f sg.toNat else -2
def fSet (f : Nat → Int) (sg vl : Int) : Nat → Int := if isVal sg vl then setsF f sg.toNat vl else f
def aRin (f : Nat → Int) (vl : Int) : Int := if 1 ≤ vl ∧ vl ≤ 9999 then (if f 3 = 14 then -4 else f 3) else -2
def fRin (f : Nat → Int) (vl : Int) : Nat → Int := if (1 ≤ vl ∧ vl ≤ 9999) ∧ ¬ f 3 = 14 then comesF f vl else f
def aLos (f : Nat → Int) : Int := if f 3 = 0 then -5 else f (6 + (f 3 - 1).toNat)
def fLos (f : Nat → Int) : Nat → Int := if f 3 = 0 then f else loseF f
def aMov (tk : Int) (f : Nat → Int) (rg : Int) : Int := if 0 ≤ rg ∧ rg ≤ f 3 - 1 then (if f 4 / 2 ^ rg.toNat % 2 = tk then prsA (moveF f rg.toNat) (moveF f rg.toNat 4) else -5) else -1
def fMov (tk : Int) (f : Nat → Int) (rg : Int) : Nat → Int := if (0 ≤ rg ∧ rg ≤ f 3 - 1) ∧ f 4 / 2 ^ rg.toNat % 2 = tk then moveF f rg.toNat else f
def aGau (f : Nat → Int) (er pl sp : Int) : Int := if (-99 ≤ er ∧ er ≤ 99) ∧ (0 ≤ pl ∧ pl ≤ 99) ∧ (1 ≤ sp ∧ sp ≤ 99) then (if f 5 = 6 then -4 else f 5) else -2
def fGau (f : Nat → Int) (er pl sp : Int) : Nat → Int := if ((-99 ≤ er ∧ er ≤ 99) ∧ (0 ≤ pl ∧ pl ≤ 99) ∧ (1 ≤ sp ∧ sp ≤ 99)) ∧ ¬ f 5 = 6 then gaugeF f er pl sp else f
def aTun (f : Nat → Int) (q er : Int) : Int := if 0 ≤ q ∧ q ≤ f 5 - 1 then (if -99 ≤ er ∧ er ≤ 99 then f (20 + 36 * q.toNat) + 100 else -2) else -1
def fTun (f : Nat → Int) (q er : Int) : Nat → Int := if (0 ≤ q ∧ q ≤ f 5 - 1) ∧ (-99 ≤ er ∧ er ≤ 99) then tuneF f q.toNat er else f
def fCer (f : Nat → Int) (q : Int) : Nat → Int := if (0 ≤ q ∧ q ≤ f 5 - 1) ∧ ¬ f 3 = 0 then certG f q.toNat else f
/-- an answer's range, and when it is an error -/
def AOk (a : Int) (c : Prop) (f f' : Nat → Int) : Prop := (-6 ≤ a ∧ a < 2147483648) ∧ (0 ≤ a ↔ c) ∧ (¬ c → f' = f)
theorem aSet_ok {f : Nat → Int} (hO : Ok f) (sg vl : Int) : AOk (aSet f sg vl) (isVal sg vl) f (fSet f sg vl) := by
  obtain ⟨b0, b1, b2, -⟩ := hO
  unfold aSet fSet
  by_cases h : isVal sg vl
  · rw [if_pos h]
    have : 0 ≤ f sg.toNat ∧ f sg.toNat ≤ 999 := by
      rcases h with h | h | h <;> rw [h.1]
      · exact ⟨b0.1, by have := b0.2; show f 0 ≤ 999; omega⟩
      · exact ⟨by have := b1.1; show 0 ≤ f 1; omega, by have := b1.2; show f 1 ≤ 999; omega⟩
      · exact b2
    exact ⟨by omega, ⟨fun _ => h, fun _ => this.1⟩, fun z => absurd h z⟩
  · rw [if_neg h, if_neg h]
    exact ⟨by omega, ⟨fun z => by omega, fun z => absurd z h⟩, fun _ => rfl⟩
theorem aRin_ok {f : Nat → Int} (hO : Ok f) (vl : Int) : AOk (aRin f vl) ((1 ≤ vl ∧ vl ≤ 9999) ∧ ¬ f 3 = 14) f (fRin f vl) := by
  have h3 := hO.2.2.2.1
  refine ⟨?_, ?_, fun z => if_neg z⟩
  · unfold aRin; (repeat' split) <;> omega
  · unfold aRin; (repeat' split) <;> omega
theorem aLos_ok {f : Nat → Int} (hO : Ok f) : AOk (aLos f) (¬ f 3 = 0) f (fLos f) := by
  have h3 := hO.2.2.2.1
  unfold aLos
  by_cases h : f 3 = 0
  · rw [if_pos h]
    exact ⟨by omega, by omega, fun _ => if_pos h⟩
  · rw [if_neg h]
    have := hO.2.2.2.2.2.2.1 (f 3 - 1).toNat (by omega)
    exact ⟨by omega, by omega, fun z => absurd h z⟩
theorem aMov_ok {f : Nat → Int} (hO : Ok f) (tk rg : Int) : AOk (aMov tk f rg) ((0 ≤ rg ∧ rg ≤ f 3 - 1) ∧ f 4 / 2 ^ rg.toNat % 2 = tk) f (fMov tk f rg) := by
  unfold aMov
  by_cases h : 0 ≤ rg ∧ rg ≤ f 3 - 1
  · rw [if_pos h]
    by_cases h2 : f 4 / 2 ^ rg.toNat % 2 = tk
    · rw [if_pos h2]
      have := prsA_rng (f := moveF f rg.toNat) (hO.h_movV (by omega)).h_handsF (moveF f rg.toNat 4)
      exact ⟨by omega, ⟨fun _ => ⟨h, h2⟩, fun _ => this.1⟩, fun z => absurd ⟨h, h2⟩ z⟩
    · rw [if_neg h2]
      exact ⟨by omega, ⟨fun z => by omega, fun z => absurd z.2 h2⟩, fun z => if_neg z⟩
  · rw [if_neg h]
    exact ⟨by omega, ⟨fun z => by omega, fun z => absurd z.1 h⟩, fun z => if_neg z⟩
theorem aGau_ok {f : Nat → Int} (hO : Ok f) (er pl sp : Int) : AOk (aGau f er pl sp) (((-99 ≤ er ∧ er ≤ 99) ∧ (0 ≤ pl ∧ pl ≤ 99) ∧ (1 ≤ sp ∧ sp ≤ 99)) ∧ ¬ f 5 = 6) f (fGau f er pl sp) := by
  have h5 := hO.2.2.2.2.2.1
  refine ⟨?_, ?_, fun z => if_neg z⟩
  · unfold aGau; (repeat' split) <;> omega
  · unfold aGau; (repeat' split) <;> omega
theorem aTun_ok {f : Nat → Int} (hO : Ok f) (q er : Int) : AOk (aTun f q er) ((0 ≤ q ∧ q ≤ f 5 - 1) ∧ (-99 ≤ er ∧ er ≤ 99)) f (fTun f q er) := by
  unfold aTun
  by_cases h : 0 ≤ q ∧ q ≤ f 5 - 1
  · rw [if_pos h]
    have := (hO.2.2.2.2.2.2.2 q.toNat (by omega)).1
    refine ⟨?_, ?_, fun z => if_neg z⟩
    · split <;> omega
    · split <;> omega
  · rw [if_neg h]
    exact ⟨by omega, ⟨fun z => by omega, fun z => absurd z.1 h⟩, fun z => if_neg z⟩
theorem ceV_ok {f : Nat → Int} (hO : Ok f) (q : Int) : AOk (ceV f q) ((0 ≤ q ∧ q ≤ f 5 - 1) ∧ ¬ f 3 = 0) f (fCer f q) := by
  have h3 := hO.2.2.2.1
  unfold ceV
  by_cases h : 0 ≤ q ∧ q ≤ f 5 - 1
  · rw [if_pos h]
    by_cases h0 : f 3 = 0
    · rw [if_pos h0]
      exact ⟨by omega, ⟨fun z => by omega, fun z => absurd h0 z.2⟩, fun z => if_neg z⟩
    · rw [if_neg h0]
      have := gTst_rng hO (by omega) (g := q.toNat) (by omega) (hO.2.2.2.2.2.2.2 q.toNat (by omega)).1
      exact ⟨by omega, ⟨fun _ => ⟨h, h0⟩, fun _ => this.1⟩, fun z => absurd ⟨h, h0⟩ z⟩
  · rw [if_neg h]
    exact ⟨by omega, ⟨fun z => by omega, fun z => absurd z.1 h⟩, fun z => if_neg z⟩
/-- a step that changes cells of the tester alone -/
def OpT (G : GG) (x z : Nat) (K N : Nat → Nat) (I : MI) (R : MR) (f' : Nat → Int) (I' : MI) (R' : MR) : Prop := TQ G (x + 100) z K N I' R' (x + 1) f' ∧ ∀ a : Nat, (a < x + 1 ∨ x + 11 ≤ a) → I' a = I a ∧ R' a = R a
theorem op_set {G : GG} {x z : Nat} {K N : Nat → Nat} {I : MI} {R : MR} {f : Nat → Int} (h : TQ G (x + 100) z K N I R (x + 1) f) (sg vl : Int) : OpT G x z K N I R (fSet f sg vl) (if isVal sg vl then (haI (u2 I (x + 1 + 1) sg.toNat vl) (x + 1) (prsA (setsV f sg.toNat vl) (setsV f sg.toNat vl 4)) (setsV f sg.toNat vl 5).toNat) else I) (if isVal sg vl ∧ sg = 1 then voR R (x + 1) (f 5).toNat else R) := by
  have h5 := h.2.2.1.2.2.2.2.2.1
  unfold fSet
  by_cases hv : isVal sg vl
  · obtain ⟨k, rfl⟩ := Int.eq_ofNat_of_zero_le (show 0 ≤ sg by omega)
    rw [if_pos hv, if_pos hv]
    have hk3 : k < 3 := by omega
    have e5 := setsV_lo f k vl 5 (by omega) (by omega) hk3
    have e : (if isVal (k : Int) vl ∧ (k : Int) = 1 then voR R (x + 1) (f 5).toNat else R) = (if k = 1 then voR R (x + 1) (f 5).toNat else R) := by
      by_cases e1 : k = 1
      · rw [if_pos e1, if_pos ⟨hv, by omega⟩]
      · rw [if_neg e1, if_neg (fun z => e1 (by have := z.2; omega))]
    rw [e]
    refine ⟨h.sets hv, fun a ha => ⟨?_, ?_⟩⟩
    · show haI _ _ _ _ a = _
      rw [haI_o _ _ _ _ _ (by show a < _ ∨ _ + (setsV f k vl 5).toNat ≤ a; rw [e5]; omega), u2_row (by omega)]
    · split
      · exact voR_o _ _ _ _ (by omega)
      · rfl
  · rw [if_neg hv, if_neg hv, if_neg (fun z => hv z.1)]
    exact ⟨h, fun _ _ => ⟨rfl, rfl⟩⟩
theorem op_rin {G : GG} {x z : Nat} {K N : Nat → Nat} {I : MI} {R : MR} {f : Nat → Int} (h : TQ G (x + 100) z K N I R (x + 1) f) (vl : Int) : OpT G x z K N I R (fRin f vl) (if (1 ≤ vl ∧ vl ≤ 9999) ∧ ¬ f 3 = 14 then u2 (u2 I (x + 1 + 2) (f 3).toNat vl) (x + 1) 3 (f 3 + 1) else I) (if (1 ≤ vl ∧ vl ≤ 9999) ∧ ¬ f 3 = 14 then voR R (x + 1) (f 5).toNat else R) := by
  have h5 := h.2.2.1.2.2.2.2.2.1
  unfold fRin
  by_cases hv : (1 ≤ vl ∧ vl ≤ 9999) ∧ ¬ f 3 = 14
  · rw [if_pos hv, if_pos hv, if_pos hv]
    refine ⟨h.ring hv.1 hv.2, fun a ha => ⟨?_, voR_o _ _ _ _ (by omega)⟩⟩
    rw [u2_row (by omega), u2_row (by omega)]
  · rw [if_neg hv, if_neg hv, if_neg hv]
    exact ⟨h, fun _ _ => ⟨rfl, rfl⟩⟩
theorem op_los {G : GG} {x z : Nat} {K N : Nat → Nat} {I : MI} {R : MR} {f : Nat → Int} (h : TQ G (x + 100) z K N I R (x + 1) f) : OpT G x z K N I R (fLos f) (if f 3 = 0 then I else haI (u2 (u2 I (x + 1) 3 (f 3 - 1)) (x + 1) 4 (clrb (f 4) (f 3 - 1).toNat)) (x + 1) (prsA (loseV f) ((loseV f) 4)) (f 5).toNat) (if f 3 = 0 then R else voR R (x + 1) (f 5).toNat) := by
  have h5 := h.2.2.1.2.2.2.2.2.1
  unfold fLos
  by_cases hv : f 3 = 0
  · rw [if_pos hv, if_pos hv, if_pos hv]
    exact ⟨h, fun _ _ => ⟨rfl, rfl⟩⟩
  · rw [if_neg hv, if_neg hv, if_neg hv]
    refine ⟨h.lose hv, fun a ha => ⟨?_, voR_o _ _ _ _ (by omega)⟩⟩
    rw [haI_o _ _ _ _ _ (by omega), u2_row (by omega), u2_row (by omega)]
theorem op_mov {G : GG} {x z : Nat} {K N : Nat → Nat} {I : MI} {R : MR} {f : Nat → Int} (h : TQ G (x + 100) z K N I R (x + 1) f) (tk rg : Int) : OpT G x z K N I R (fMov tk f rg) (if (0 ≤ rg ∧ rg ≤ f 3 - 1) ∧ f 4 / 2 ^ rg.toNat % 2 = tk then haI (u2 I (x + 1) 4 (flipb (f 4) rg.toNat)) (x + 1) (prsA (movV f rg.toNat) ((movV f rg.toNat) 4)) ((movV f rg.toNat) 5).toNat else I) R := by
  have h5 := h.2.2.1.2.2.2.2.2.1
  unfold fMov
  by_cases hv : (0 ≤ rg ∧ rg ≤ f 3 - 1) ∧ f 4 / 2 ^ rg.toNat % 2 = tk
  · rw [if_pos hv, if_pos hv]
    have e5 : movV f rg.toNat 5 = f 5 := st1_n (by omega)
    refine ⟨h.move (by omega), fun a ha => ⟨?_, rfl⟩⟩
    rw [haI_o _ _ _ _ _ (by rw [e5]; omega), u2_row (by omega)]
  · rw [if_neg hv, if_neg hv]
    exact ⟨h, fun _ _ => ⟨rfl, rfl⟩⟩
theorem op_gau {G : GG} {x z : Nat} {K N : Nat → Nat} {I : MI} {R : MR} {f : Nat → Int} (h : TQ G (x + 100) z K N I R (x + 1) f) (er pl sp : Int) : OpT G x z K N I R (fGau f er pl sp) (if ((-99 ≤ er ∧ er ≤ 99) ∧ (0 ≤ pl ∧ pl ≤ 99) ∧ (1 ≤ sp ∧ sp ≤ 99)) ∧ ¬ f 5 = 6 then (u2 (u2 (va_up I (x + 1 + 4 + (f 5).toNat) (gR er pl sp (I (x + 1 + 4 + (f 5).toNat)))) (x + 1 + 4 + (f 5).toNat) 3 (goes 0 (prsA f (f 4)) er pl)) (x + 1) 5 (f 5 + 1)) else I) (if ((-99 ≤ er ∧ er ≤ 99) ∧ (0 ≤ pl ∧ pl ≤ 99) ∧ (1 ≤ sp ∧ sp ≤ 99)) ∧ ¬ f 5 = 6 then (u2 R (x + 1 + 4 + (f 5).toNat) 4 none) else R) := by
  have h5 := h.2.2.1.2.2.2.2.2.1
  unfold fGau
  by_cases hv : ((-99 ≤ er ∧ er ≤ 99) ∧ (0 ≤ pl ∧ pl ≤ 99) ∧ (1 ≤ sp ∧ sp ≤ 99)) ∧ ¬ f 5 = 6
  · rw [if_pos hv, if_pos hv, if_pos hv]
    refine ⟨h.gauge hv.1 hv.2, fun a ha => ⟨?_, u2_row (by omega)⟩⟩
    rw [u2_row (by omega), u2_row (by omega), va_up_n (by omega)]
  · rw [if_neg hv, if_neg hv, if_neg hv]
    exact ⟨h, fun _ _ => ⟨rfl, rfl⟩⟩
theorem op_tun {G : GG} {x z : Nat} {K N : Nat → Nat} {I : MI} {R : MR} {f : Nat → Int} (h : TQ G (x + 100) z K N I R (x + 1) f) (q er : Int) : OpT G x z K N I R (fTun f q er) (if (0 ≤ q ∧ q ≤ f 5 - 1) ∧ (-99 ≤ er ∧ er ≤ 99) then (u2 (u2 I (x + 1 + 4 + q.toNat) 0 er) (x + 1 + 4 + q.toNat) 3 (goes (f (23 + 36 * q.toNat)) (prsA f (f 4)) er (f (21 + 36 * q.toNat)))) else I) (if (0 ≤ q ∧ q ≤ f 5 - 1) ∧ (-99 ≤ er ∧ er ≤ 99) then u2 R (x + 1 + 4 + q.toNat) 4 none else R) := by
  have h5 := h.2.2.1.2.2.2.2.2.1
  unfold fTun
  by_cases hv : (0 ≤ q ∧ q ≤ f 5 - 1) ∧ (-99 ≤ er ∧ er ≤ 99)
  · rw [if_pos hv, if_pos hv, if_pos hv]
    refine ⟨h.tune (by omega) hv.2, fun a ha => ⟨?_, u2_row (by omega)⟩⟩
    rw [u2_row (by omega), u2_row (by omega)]
  · rw [if_neg hv, if_neg hv, if_neg hv]
    exact ⟨h, fun _ _ => ⟨rfl, rfl⟩⟩
theorem CI.rem2 {G : GG} {x z : Nat} {K N : Nat → Nat} {I : MI} {R : MR} {f h s v P : Nat → Int} {n len : Int} (c : CI G x z K N I R f h s v P n len) {q : Nat} (hq : I (x + 11) 1 = (q : Int)) :
    CI G x z K N (copI I (x + 11 + 2 + 10 * q) (x + 1)) (cpR R (x + 11 + 2 + 10 * q) (x + 1) 6) f h s v P n len ∧ TQ G (x + 100) z K N (copI I (x + 11 + 2 + 10 * q) (x + 1)) (cpR R (x + 11 + 2 + 10 * q) (x + 1) 6) (x + 13 + 10 * q) f ∧ (∀ a : Nat, (a < x + 13 ∨ x + 83 ≤ a) → copI I (x + 11 + 2 + 10 * q) (x + 1) a = I a ∧ cpR R (x + 11 + 2 + 10 * q) (x + 1) 6 a = R a) := by
  have hq6 : q ≤ 6 := by have := c.2.2.2.1.1; omega
  have e : x + 11 + 2 + 10 * q = x + 13 + 10 * q := by omega
  rw [e]
  exact ⟨(c.rem hq).1, (c.rem hq).2, fun a ha => ⟨copI_n _ _ _ _ (by omega), cpR_o _ _ _ _ (by omega)⟩⟩
/-- the end of a change: recorded, or not -/
def CPc (G : GG) (x z : Nat) (K N : Nat → Nat) (I : MI) (R : MR) (a : Int) (f' f h s v P : Nat → Int) (n len : Int) (z' : Nat) (K' N' : Nat → Nat) (I' : MI) (R' : MR) : Prop :=
  FrM x z K N I R z' K' N' I' R' ∧ (0 ≤ a → CI G x z' K' N' I' R' f' (recH f h n) s v P (recN n + 1) len) ∧ (¬ 0 ≤ a → CI G x z' K' N' I' R' f h s v P n len)
theorem CPc_fin {G : GG} {x z : Nat} {K N : Nat → Nat} {I : MI} {R : MR} {a : Int} {f' f h s v P : Nat → Int} {n len : Int} {z' : Nat} {K' N' : Nat → Nat} {I' : MI} {R' : MR} {q : Nat} (c : CI G x z' K' N' I' R' f' h s v P n len) (hq : I' (x + 11) 1 = (q : Int)) (hu : TQ G (x + 100) z' K' N' I' R' (x + 13 + 10 * q) f) (hf : FrM x z K N I R z' K' N' I' R') (ha : ¬ 0 ≤ a → f' = f) :
    CPc G x z K N I R a f' f h s v P n len z' K' N' (if 0 ≤ a then u2 (u2 I' (x + 11) 1 (if I' (x + 11) 1 < 6 then I' (x + 11) 1 + 1 else 0)) (x + 11) 2 (if I' (x + 11) 2 < 6 then I' (x + 11) 2 + 1 else 6) else I') R' := by
  by_cases h0 : 0 ≤ a
  · rw [if_pos h0]
    exact ⟨⟨hf.1, hf.2.1, fun w h1 h2 => ⟨by rw [u2_row (by omega), u2_row (by omega)]; exact (hf.2.2 w h1 h2).1, (hf.2.2 w h1 h2).2⟩⟩, fun _ => c.setl hq hu, fun z => absurd h0 z⟩
  · rw [if_neg h0]
    refine ⟨hf, fun z => absurd z h0, fun _ => ?_⟩
    rw [← ha h0]; exact c
theorem StK.op {x z : Nat} {K N : Nat → Nat} {I I' : MI} {R R' : MR} (h : ∀ a : Nat, (a < x + 1 ∨ x + 11 ≤ a) → I' a = I a ∧ R' a = R a) : StK x z K N I R z K N I' R' :=
  ⟨Nat.le_refl z, fun _ _ => ⟨rfl, rfl⟩, fun a _ ha => ⟨fun _ => (h a ha).1, fun _ => (h a ha).2⟩⟩
theorem TQ.stk {G : GG} {x z z' : Nat} {K N K' N' : Nat → Nat} {I I' : MI} {R R' : MR} {t : Nat} {f : Nat → Int} (h : TQ G (x + 100) z K N I R t f) (hs : StK x z K N I R z' K' N' I' R') (ht : x + 13 ≤ t ∧ t + 10 ≤ x + 83) : TQ G (x + 100) z' K' N' I' R' t f := by
  have tz := (h.1.2.2.2.2 5 (by omega)).1.2.1
  obtain ⟨s1, s2, s3⟩ := hs
  exact h.keep (CK.lo s1 s2 fun a h1 h2 => ⟨(s3 a h2 (by omega)).1 (by omega), (s3 a h2 (by omega)).2 (by omega)⟩) fun a h1 h2 => ⟨(s3 a (by omega) (by omega)).1 (by omega), (s3 a (by omega) (by omega)).2 (by omega)⟩
theorem FrM.stk {x z z' z2 : Nat} {K N K' N' K2 N2 : Nat → Nat} {I I' I2 : MI} {R R' R2 : MR} (h : FrM x z K N I R z2 K2 N2 I2 R2) (hx : x + 100 ≤ z) (hs : StK x z2 K2 N2 I2 R2 z' K' N' I' R') : FrM x z K N I R z' K' N' I' R' := by
  obtain ⟨s1, s2, s3⟩ := hs
  obtain ⟨f1, f2, f3⟩ := h
  refine ⟨by omega, fun a ha => ⟨(s2 a (by omega)).1.trans (f2 a ha).1, (s2 a (by omega)).2.trans (f2 a ha).2⟩, fun a h1 h2 => ?_⟩
  have w := s3 a (by omega) (by omega)
  exact ⟨(w.1 (by omega)).trans (f3 a h1 h2).1, (w.2 (by omega)).trans (f3 a h1 h2).2⟩
theorem ans_set {G : GG} {X z : Nat} {K N : Nat → Nat} {I : MI} {R : MR} {t : Nat} {f : Nat → Int} (h : TQ G X z K N I R t f) (sg vl : Int) : (if isVal sg vl then I (t + 1) sg.toNat else -2) = aSet f sg vl := by
  unfold aSet
  obtain ⟨⟨b0, b1, b2⟩, -⟩ := h.2.1
  by_cases hv : isVal sg vl
  · rw [if_pos hv, if_pos hv]
    rcases hv with w | w | w <;> rw [w.1]
    · exact b0
    · exact b1
    · exact b2
  · rw [if_neg hv, if_neg hv]
theorem prsA_move {f : Nat → Int} (hO : Ok f) (r : Nat) : prsA (moveF f r) (moveF f r 4) = prsA (movV f r) (movV f r 4) := by
  have h3 : movV f r 3 ≤ 14 := by rw [show movV f r 3 = f 3 from st1_n (by omega)]; exact hO.2.2.2.1.2
  unfold moveF
  rw [handsF_lo _ 4 (by omega)]
  exact prsA_cong h3 fun j hj => handsF_lo _ j hj
theorem ans_mov {f : Nat → Int} (hO : Ok f) (tk rg : Int) : (if 0 ≤ rg ∧ rg ≤ f 3 - 1 then (if f 4 / 2 ^ rg.toNat % 2 = tk then prsA (movV f rg.toNat) ((movV f rg.toNat) 4) else -5) else -1) = aMov tk f rg := by
  unfold aMov
  rw [prsA_move hO]
set_option maxHeartbeats 4000000 in
set_option maxRecDepth 100000 in
theorem mX6_set (l : Launch) (G : GG) {z : Nat} {K N : Nat → Nat} {I : MI} {R : MR} {x : Nat} {f h s0 v0 P : Nat → Int} {n len : Int} (hC : CI G x z K N I R f h s0 v0 P n len) (hx : x + 100 ≤ z) {sg vl : Int} (hsg : -2147483648 ≤ sg ∧ sg < 2147483648) (hvl : -2147483648 ≤ vl ∧ vl < 2147483648) : Con l G yX6_set (Cond.code yX6_set cX6_set 3 (some .int) :: wsL_law) ⟨6, 0, 0, 129⟩ 0 0 [.ref x, .int (zI sg), .int (zI vl)] z K N I R (fun r z' K' N' I' R' => r = some (.int (zI (aSet f sg vl))) ∧ CPc G x z K N I R (aSet f sg vl) (fSet f sg vl) f h s0 v0 P n len z' K' N' I' R') := by
  refine Con.of (own := RX6) (cc := cX6_set) (maxL := 3) (ret := (some .int)) (by decide +kernel) rfl rfl (Nat.le_of_ble_eq_true rfl) (by decide) rfl ?_
  intro p e9 s mt args below meth c Q hin hQ C
  obtain ⟨⟨cx, cr0, cr1, cr2, cr3, cr4⟩, ⟨cH, ⟨cS, cN⟩, cX, cP⟩, cT, ⟨cp, cn, cm, cJ⟩, cSl, cPd⟩ := id hC
  have kn := cT.1.1
  have kh := cH.1
  obtain ⟨q, hq⟩ := Int.eq_ofNat_of_zero_le cp.1
  have hq7 : q < 7 := by omega
  refine z_aload_n C dX6_set_0 rfl ?_
  refine z_gR C (ci := 6) (k := 1) rfl (by decide) rfl (by decide) wl_6 wq_1_20 (by decide) dX6_set_1 (by assumption) (by assumption) ?_
  refine z_aload_n C dX6_set_4 rfl ?_
  refine z_gR C (ci := 6) (k := 0) rfl (by decide) rfl (by decide) wl_6 wq_1_16 (by decide) dX6_set_5 (by assumption) (by assumption) ?_
  refine z_callVd C (ci := 2) rfl (by decide) (by first | assumption | exact hM.1) (mX2_remember l G cH cT.1 (by omega) hq hq7) (cwV 1 C.2.2.2.2.1 gv6_41 rfl rfl rfl hd_X2_remember ⟨Nat.le_of_ble_eq_true rfl, Nat.le_of_ble_eq_true rfl⟩) rfl rfl (Nat.le_of_ble_eq_true rfl) dX6_set_8 ⟨Nat.zero_le _, Nat.zero_le _⟩ ?_
  refine z_gen (fun I' R' => CI G x z K N I' R' f h s0 v0 P n len ∧ TQ G (x + 100) z K N I' R' (x + 13 + 10 * q) f ∧ ∀ a : Nat, (a < x + 13 ∨ x + 83 ≤ a) → I' a = I a ∧ R' a = R a) (hC.rem2 hq) ?_
  intro I1 R1 ⟨dC, dU, dF⟩
  obtain ⟨⟨ex, er0, er1, er2, er3, er4⟩, ⟨eH, ⟨eS, eN⟩, eX, eP⟩, eT, ⟨ep, en, em, eJ⟩, eSl, ePd⟩ := id dC
  have dq : I1 (x + 11) 1 = (q : Int) := by rw [(dF (x + 11) (by omega)).1]; exact hq
  have hf1 : FrM x z K N I R z K N I1 R1 := ⟨Nat.le_refl z, fun _ _ => ⟨rfl, rfl⟩, fun a h1 h2 => dF a (by omega)⟩
  refine z_aload_n C dX6_set_11 rfl ?_
  refine z_gR C (ci := 6) (k := 1) rfl (by decide) rfl (by decide) wl_6 wq_1_20 (by decide) dX6_set_12 (by assumption) (by assumption) ?_
  refine z_aload_n C dX6_set_15 rfl ?_
  refine z_gR C (ci := 6) (k := 0) rfl (by decide) rfl (by decide) wl_6 wq_1_16 (by decide) dX6_set_16 (by assumption) (by assumption) ?_
  refine z_iload_n C dX6_set_19 rfl ?_
  refine z_iload_n C dX6_set_20 rfl ?_
  refine z_callVd C (ci := 4) rfl (by decide) (by first | assumption | exact hM.1) (mX4_change l G eT.1 eT.2.1 eT.2.2.1 hsg hvl) (cwV 2 C.2.2.2.2.1 gv6_45 rfl rfl rfl hd_X4_change ⟨Nat.le_of_ble_eq_true rfl, Nat.le_of_ble_eq_true rfl⟩) rfl rfl (Nat.le_of_ble_eq_true rfl) dX6_set_21 ⟨Nat.zero_le _, Nat.zero_le _⟩ ?_
  refine z_top (y := .int (zI (aSet f sg vl))) (congrArg (fun w => Value.int (zI w)) (ans_set eT sg vl)) ?_
  refine z_gen (fun I' R' => OpT G x z K N I1 R1 (fSet f sg vl) I' R') (op_set eT sg vl) ?_
  intro I2 R2 ⟨oT, oF⟩
  have oS : StK x z K N I1 R1 z K N I2 R2 := StK.op oF
  have oC := dC.stp oS oT
  have oU := dU.stk oS (by omega)
  have oM := hf1.stk hx oS
  have oq : I2 (x + 11) 1 = (q : Int) := by rw [(oF (x + 11) (by omega)).1]; exact dq
  have oH := oC.2.1.1
  have koh := oH.1
  obtain ⟨og, on, ok, -⟩ := oC.2.2.2.1
  have aok := aSet_ok eT.2.2.1 sg vl
  refine z_callVd C (ci := 2) rfl (by decide) (by first | assumption | exact hM.1) (mX2_settle l G oH ⟨by have := aok.1.1; omega, aok.1.2⟩ og (by rw [on]; exact ok)) (cwV 1 C.2.2.2.2.1 gv6_49 rfl rfl rfl hd_X2_settle ⟨Nat.le_of_ble_eq_true rfl, Nat.le_of_ble_eq_true rfl⟩) rfl rfl (Nat.le_of_ble_eq_true rfl) dX6_set_24 ⟨Nat.zero_le _, Nat.zero_le _⟩ ?_
  exact z_iret2 C hQ rfl dX6_set_27 ⟨rfl, CPc_fin oC oq oU oM (fun z9 => aok.2.2 (fun c9 => z9 (aok.2.1.mpr c9)))⟩

set_option maxHeartbeats 4000000 in
set_option maxRecDepth 100000 in
theorem mX6_ring (l : Launch) (G : GG) {z : Nat} {K N : Nat → Nat} {I : MI} {R : MR} {x : Nat} {f h s0 v0 P : Nat → Int} {n len : Int} (hC : CI G x z K N I R f h s0 v0 P n len) (hx : x + 100 ≤ z) {vl : Int} (hvl : -2147483648 ≤ vl ∧ vl < 2147483648) : Con l G yX6_ring (Cond.code yX6_ring cX6_ring 2 (some .int) :: wsL_law) ⟨3, 0, 0, 69⟩ 0 0 [.ref x, .int (zI vl)] z K N I R (fun r z' K' N' I' R' => r = some (.int (zI (aRin f vl))) ∧ CPc G x z K N I R (aRin f vl) (fRin f vl) f h s0 v0 P n len z' K' N' I' R') := by
  refine Con.of (own := RX6) (cc := cX6_ring) (maxL := 2) (ret := (some .int)) (by decide +kernel) rfl rfl (Nat.le_of_ble_eq_true rfl) (by decide) rfl ?_
  intro p e9 s mt args below meth c Q hin hQ C
  obtain ⟨⟨cx, cr0, cr1, cr2, cr3, cr4⟩, ⟨cH, ⟨cS, cN⟩, cX, cP⟩, cT, ⟨cp, cn, cm, cJ⟩, cSl, cPd⟩ := id hC
  have kn := cT.1.1
  have kh := cH.1
  obtain ⟨q, hq⟩ := Int.eq_ofNat_of_zero_le cp.1
  have hq7 : q < 7 := by omega
  refine z_aload_n C dX6_ring_0 rfl ?_
  refine z_gR C (ci := 6) (k := 1) rfl (by decide) rfl (by decide) wl_6 wq_1_20 (by decide) dX6_ring_1 (by assumption) (by assumption) ?_
  refine z_aload_n C dX6_ring_4 rfl ?_
  refine z_gR C (ci := 6) (k := 0) rfl (by decide) rfl (by decide) wl_6 wq_1_16 (by decide) dX6_ring_5 (by assumption) (by assumption) ?_
  refine z_callVd C (ci := 2) rfl (by decide) (by first | assumption | exact hM.1) (mX2_remember l G cH cT.1 (by omega) hq hq7) (cwV 1 C.2.2.2.2.1 gv6_41 rfl rfl rfl hd_X2_remember ⟨Nat.le_of_ble_eq_true rfl, Nat.le_of_ble_eq_true rfl⟩) rfl rfl (Nat.le_of_ble_eq_true rfl) dX6_ring_8 ⟨Nat.zero_le _, Nat.zero_le _⟩ ?_
  refine z_gen (fun I' R' => CI G x z K N I' R' f h s0 v0 P n len ∧ TQ G (x + 100) z K N I' R' (x + 13 + 10 * q) f ∧ ∀ a : Nat, (a < x + 13 ∨ x + 83 ≤ a) → I' a = I a ∧ R' a = R a) (hC.rem2 hq) ?_
  intro I1 R1 ⟨dC, dU, dF⟩
  obtain ⟨⟨ex, er0, er1, er2, er3, er4⟩, ⟨eH, ⟨eS, eN⟩, eX, eP⟩, eT, ⟨ep, en, em, eJ⟩, eSl, ePd⟩ := id dC
  have dq : I1 (x + 11) 1 = (q : Int) := by rw [(dF (x + 11) (by omega)).1]; exact hq
  have hf1 : FrM x z K N I R z K N I1 R1 := ⟨Nat.le_refl z, fun _ _ => ⟨rfl, rfl⟩, fun a h1 h2 => dF a (by omega)⟩
  refine z_aload_n C dX6_ring_11 rfl ?_
  refine z_gR C (ci := 6) (k := 1) rfl (by decide) rfl (by decide) wl_6 wq_1_20 (by decide) dX6_ring_12 (by assumption) (by assumption) ?_
  refine z_aload_n C dX6_ring_15 rfl ?_
  refine z_gR C (ci := 6) (k := 0) rfl (by decide) rfl (by decide) wl_6 wq_1_16 (by decide) dX6_ring_16 (by assumption) (by assumption) ?_
  refine z_iload_n C dX6_ring_19 rfl ?_
  refine z_callVd C (ci := 4) rfl (by decide) (by first | assumption | exact hM.1) (mX4_addRing l G eT.1 eT.2.1 eT.2.2.1 hvl) (cwV 1 C.2.2.2.2.1 gv6_53 rfl rfl rfl hd_X4_addRing ⟨Nat.le_of_ble_eq_true rfl, Nat.le_of_ble_eq_true rfl⟩) rfl rfl (Nat.le_of_ble_eq_true rfl) dX6_ring_20 ⟨Nat.zero_le _, Nat.zero_le _⟩ ?_
  refine z_top (y := .int (zI (aRin f vl))) (congrArg (fun w => Value.int (zI w)) (rfl)) ?_
  refine z_gen (fun I' R' => OpT G x z K N I1 R1 (fRin f vl) I' R') (op_rin eT vl) ?_
  intro I2 R2 ⟨oT, oF⟩
  have oS : StK x z K N I1 R1 z K N I2 R2 := StK.op oF
  have oC := dC.stp oS oT
  have oU := dU.stk oS (by omega)
  have oM := hf1.stk hx oS
  have oq : I2 (x + 11) 1 = (q : Int) := by rw [(oF (x + 11) (by omega)).1]; exact dq
  have oH := oC.2.1.1
  have koh := oH.1
  obtain ⟨og, on, ok, -⟩ := oC.2.2.2.1
  have aok := aRin_ok eT.2.2.1 vl
  refine z_callVd C (ci := 2) rfl (by decide) (by first | assumption | exact hM.1) (mX2_settle l G oH ⟨by have := aok.1.1; omega, aok.1.2⟩ og (by rw [on]; exact ok)) (cwV 1 C.2.2.2.2.1 gv6_49 rfl rfl rfl hd_X2_settle ⟨Nat.le_of_ble_eq_true rfl, Nat.le_of_ble_eq_true rfl⟩) rfl rfl (Nat.le_of_ble_eq_true rfl) dX6_ring_23 ⟨Nat.zero_le _, Nat.zero_le _⟩ ?_
  exact z_iret2 C hQ rfl dX6_ring_26 ⟨rfl, CPc_fin oC oq oU oM (fun z9 => aok.2.2 (fun c9 => z9 (aok.2.1.mpr c9)))⟩

set_option maxHeartbeats 4000000 in
set_option maxRecDepth 100000 in
theorem mX6_lose (l : Launch) (G : GG) {z : Nat} {K N : Nat → Nat} {I : MI} {R : MR} {x : Nat} {f h s0 v0 P : Nat → Int} {n len : Int} (hC : CI G x z K N I R f h s0 v0 P n len) (hx : x + 100 ≤ z)  : Con l G yX6_lose (Cond.code yX6_lose cX6_lose 1 (some .int) :: wsL_law) ⟨6, 0, 0, 126⟩ 0 0 [.ref x] z K N I R (fun r z' K' N' I' R' => r = some (.int (zI (aLos f))) ∧ CPc G x z K N I R (aLos f) (fLos f) f h s0 v0 P n len z' K' N' I' R') := by
  refine Con.of (own := RX6) (cc := cX6_lose) (maxL := 1) (ret := (some .int)) (by decide +kernel) rfl rfl (Nat.le_of_ble_eq_true rfl) (by decide) rfl ?_
  intro p e9 s mt args below meth c Q hin hQ C
  obtain ⟨⟨cx, cr0, cr1, cr2, cr3, cr4⟩, ⟨cH, ⟨cS, cN⟩, cX, cP⟩, cT, ⟨cp, cn, cm, cJ⟩, cSl, cPd⟩ := id hC
  have kn := cT.1.1
  have kh := cH.1
  obtain ⟨q, hq⟩ := Int.eq_ofNat_of_zero_le cp.1
  have hq7 : q < 7 := by omega
  refine z_aload_n C dX6_lose_0 rfl ?_
  refine z_gR C (ci := 6) (k := 1) rfl (by decide) rfl (by decide) wl_6 wq_1_20 (by decide) dX6_lose_1 (by assumption) (by assumption) ?_
  refine z_aload_n C dX6_lose_4 rfl ?_
  refine z_gR C (ci := 6) (k := 0) rfl (by decide) rfl (by decide) wl_6 wq_1_16 (by decide) dX6_lose_5 (by assumption) (by assumption) ?_
  refine z_callVd C (ci := 2) rfl (by decide) (by first | assumption | exact hM.1) (mX2_remember l G cH cT.1 (by omega) hq hq7) (cwV 1 C.2.2.2.2.1 gv6_41 rfl rfl rfl hd_X2_remember ⟨Nat.le_of_ble_eq_true rfl, Nat.le_of_ble_eq_true rfl⟩) rfl rfl (Nat.le_of_ble_eq_true rfl) dX6_lose_8 ⟨Nat.zero_le _, Nat.zero_le _⟩ ?_
  refine z_gen (fun I' R' => CI G x z K N I' R' f h s0 v0 P n len ∧ TQ G (x + 100) z K N I' R' (x + 13 + 10 * q) f ∧ ∀ a : Nat, (a < x + 13 ∨ x + 83 ≤ a) → I' a = I a ∧ R' a = R a) (hC.rem2 hq) ?_
  intro I1 R1 ⟨dC, dU, dF⟩
  obtain ⟨⟨ex, er0, er1, er2, er3, er4⟩, ⟨eH, ⟨eS, eN⟩, eX, eP⟩, eT, ⟨ep, en, em, eJ⟩, eSl, ePd⟩ := id dC
  have dq : I1 (x + 11) 1 = (q : Int) := by rw [(dF (x + 11) (by omega)).1]; exact hq
  have hf1 : FrM x z K N I R z K N I1 R1 := ⟨Nat.le_refl z, fun _ _ => ⟨rfl, rfl⟩, fun a h1 h2 => dF a (by omega)⟩
  refine z_aload_n C dX6_lose_11 rfl ?_
  refine z_gR C (ci := 6) (k := 1) rfl (by decide) rfl (by decide) wl_6 wq_1_20 (by decide) dX6_lose_12 (by assumption) (by assumption) ?_
  refine z_aload_n C dX6_lose_15 rfl ?_
  refine z_gR C (ci := 6) (k := 0) rfl (by decide) rfl (by decide) wl_6 wq_1_16 (by decide) dX6_lose_16 (by assumption) (by assumption) ?_
  refine z_callVd C (ci := 4) rfl (by decide) (by first | assumption | exact hM.1) (mX4_dropRing l G eT.1 eT.2.1 eT.2.2.1) (cwV 0 C.2.2.2.2.1 gv6_56 rfl rfl rfl hd_X4_dropRing ⟨Nat.le_of_ble_eq_true rfl, Nat.le_of_ble_eq_true rfl⟩) rfl rfl (Nat.le_of_ble_eq_true rfl) dX6_lose_19 ⟨Nat.zero_le _, Nat.zero_le _⟩ ?_
  refine z_top (y := .int (zI (aLos f))) (congrArg (fun w => Value.int (zI w)) (rfl)) ?_
  refine z_gen (fun I' R' => OpT G x z K N I1 R1 (fLos f) I' R') (op_los eT) ?_
  intro I2 R2 ⟨oT, oF⟩
  have oS : StK x z K N I1 R1 z K N I2 R2 := StK.op oF
  have oC := dC.stp oS oT
  have oU := dU.stk oS (by omega)
  have oM := hf1.stk hx oS
  have oq : I2 (x + 11) 1 = (q : Int) := by rw [(oF (x + 11) (by omega)).1]; exact dq
  have oH := oC.2.1.1
  have koh := oH.1
  obtain ⟨og, on, ok, -⟩ := oC.2.2.2.1
  have aok := aLos_ok eT.2.2.1
  refine z_callVd C (ci := 2) rfl (by decide) (by first | assumption | exact hM.1) (mX2_settle l G oH ⟨by have := aok.1.1; omega, aok.1.2⟩ og (by rw [on]; exact ok)) (cwV 1 C.2.2.2.2.1 gv6_49 rfl rfl rfl hd_X2_settle ⟨Nat.le_of_ble_eq_true rfl, Nat.le_of_ble_eq_true rfl⟩) rfl rfl (Nat.le_of_ble_eq_true rfl) dX6_lose_22 ⟨Nat.zero_le _, Nat.zero_le _⟩ ?_
  exact z_iret2 C hQ rfl dX6_lose_25 ⟨rfl, CPc_fin oC oq oU oM (fun z9 => aok.2.2 (fun c9 => z9 (aok.2.1.mpr c9)))⟩

set_option maxHeartbeats 4000000 in
set_option maxRecDepth 100000 in
theorem mX6_stack (l : Launch) (G : GG) {z : Nat} {K N : Nat → Nat} {I : MI} {R : MR} {x : Nat} {f h s0 v0 P : Nat → Int} {n len : Int} (hC : CI G x z K N I R f h s0 v0 P n len) (hx : x + 100 ≤ z) {rg : Int} (hrg : -2147483648 ≤ rg ∧ rg < 2147483648) : Con l G yX6_stack (Cond.code yX6_stack cX6_stack 2 (some .int) :: wsL_law) ⟨6, 0, 0, 127⟩ 0 0 [.ref x, .int (zI rg)] z K N I R (fun r z' K' N' I' R' => r = some (.int (zI (aMov 0 f rg))) ∧ CPc G x z K N I R (aMov 0 f rg) (fMov 0 f rg) f h s0 v0 P n len z' K' N' I' R') := by
  refine Con.of (own := RX6) (cc := cX6_stack) (maxL := 2) (ret := (some .int)) (by decide +kernel) rfl rfl (Nat.le_of_ble_eq_true rfl) (by decide) rfl ?_
  intro p e9 s mt args below meth c Q hin hQ C
  obtain ⟨⟨cx, cr0, cr1, cr2, cr3, cr4⟩, ⟨cH, ⟨cS, cN⟩, cX, cP⟩, cT, ⟨cp, cn, cm, cJ⟩, cSl, cPd⟩ := id hC
  have kn := cT.1.1
  have kh := cH.1
  obtain ⟨q, hq⟩ := Int.eq_ofNat_of_zero_le cp.1
  have hq7 : q < 7 := by omega
  refine z_aload_n C dX6_stack_0 rfl ?_
  refine z_gR C (ci := 6) (k := 1) rfl (by decide) rfl (by decide) wl_6 wq_1_20 (by decide) dX6_stack_1 (by assumption) (by assumption) ?_
  refine z_aload_n C dX6_stack_4 rfl ?_
  refine z_gR C (ci := 6) (k := 0) rfl (by decide) rfl (by decide) wl_6 wq_1_16 (by decide) dX6_stack_5 (by assumption) (by assumption) ?_
  refine z_callVd C (ci := 2) rfl (by decide) (by first | assumption | exact hM.1) (mX2_remember l G cH cT.1 (by omega) hq hq7) (cwV 1 C.2.2.2.2.1 gv6_41 rfl rfl rfl hd_X2_remember ⟨Nat.le_of_ble_eq_true rfl, Nat.le_of_ble_eq_true rfl⟩) rfl rfl (Nat.le_of_ble_eq_true rfl) dX6_stack_8 ⟨Nat.zero_le _, Nat.zero_le _⟩ ?_
  refine z_gen (fun I' R' => CI G x z K N I' R' f h s0 v0 P n len ∧ TQ G (x + 100) z K N I' R' (x + 13 + 10 * q) f ∧ ∀ a : Nat, (a < x + 13 ∨ x + 83 ≤ a) → I' a = I a ∧ R' a = R a) (hC.rem2 hq) ?_
  intro I1 R1 ⟨dC, dU, dF⟩
  obtain ⟨⟨ex, er0, er1, er2, er3, er4⟩, ⟨eH, ⟨eS, eN⟩, eX, eP⟩, eT, ⟨ep, en, em, eJ⟩, eSl, ePd⟩ := id dC
  have dq : I1 (x + 11) 1 = (q : Int) := by rw [(dF (x + 11) (by omega)).1]; exact hq
  have hf1 : FrM x z K N I R z K N I1 R1 := ⟨Nat.le_refl z, fun _ _ => ⟨rfl, rfl⟩, fun a h1 h2 => dF a (by omega)⟩
  refine z_aload_n C dX6_stack_11 rfl ?_
  refine z_gR C (ci := 6) (k := 1) rfl (by decide) rfl (by decide) wl_6 wq_1_20 (by decide) dX6_stack_12 (by assumption) (by assumption) ?_
  refine z_aload_n C dX6_stack_15 rfl ?_
  refine z_gR C (ci := 6) (k := 0) rfl (by decide) rfl (by decide) wl_6 wq_1_16 (by decide) dX6_stack_16 (by assumption) (by assumption) ?_
  refine z_iload_n C dX6_stack_19 rfl ?_
  refine z_callVd C (ci := 4) rfl (by decide) (by first | assumption | exact hM.1) (mX4_putOn l G eT.1 eT.2.1 eT.2.2.1 hrg) (cwV 1 C.2.2.2.2.1 gv6_60 rfl rfl rfl hd_X4_putOn ⟨Nat.le_of_ble_eq_true rfl, Nat.le_of_ble_eq_true rfl⟩) rfl rfl (Nat.le_of_ble_eq_true rfl) dX6_stack_20 ⟨Nat.zero_le _, Nat.zero_le _⟩ ?_
  refine z_top (y := .int (zI (aMov 0 f rg))) (congrArg (fun w => Value.int (zI w)) (ans_mov eT.2.2.1 0 rg)) ?_
  refine z_gen (fun I' R' => OpT G x z K N I1 R1 (fMov 0 f rg) I' R') (op_mov eT 0 rg) ?_
  intro I2 R2 ⟨oT, oF⟩
  have oS : StK x z K N I1 R1 z K N I2 R2 := StK.op oF
  have oC := dC.stp oS oT
  have oU := dU.stk oS (by omega)
  have oM := hf1.stk hx oS
  have oq : I2 (x + 11) 1 = (q : Int) := by rw [(oF (x + 11) (by omega)).1]; exact dq
  have oH := oC.2.1.1
  have koh := oH.1
  obtain ⟨og, on, ok, -⟩ := oC.2.2.2.1
  have aok := aMov_ok eT.2.2.1 0 rg
  refine z_callVd C (ci := 2) rfl (by decide) (by first | assumption | exact hM.1) (mX2_settle l G oH ⟨by have := aok.1.1; omega, aok.1.2⟩ og (by rw [on]; exact ok)) (cwV 1 C.2.2.2.2.1 gv6_49 rfl rfl rfl hd_X2_settle ⟨Nat.le_of_ble_eq_true rfl, Nat.le_of_ble_eq_true rfl⟩) rfl rfl (Nat.le_of_ble_eq_true rfl) dX6_stack_23 ⟨Nat.zero_le _, Nat.zero_le _⟩ ?_
  exact z_iret2 C hQ rfl dX6_stack_26 ⟨rfl, CPc_fin oC oq oU oM (fun z9 => aok.2.2 (fun c9 => z9 (aok.2.1.mpr c9)))⟩

set_option maxHeartbeats 4000000 in
set_option maxRecDepth 100000 in
theorem mX6_take (l : Launch) (G : GG) {z : Nat} {K N : Nat → Nat} {I : MI} {R : MR} {x : Nat} {f h s0 v0 P : Nat → Int} {n len : Int} (hC : CI G x z K N I R f h s0 v0 P n len) (hx : x + 100 ≤ z) {rg : Int} (hrg : -2147483648 ≤ rg ∧ rg < 2147483648) : Con l G yX6_take (Cond.code yX6_take cX6_take 2 (some .int) :: wsL_law) ⟨6, 0, 0, 127⟩ 0 0 [.ref x, .int (zI rg)] z K N I R (fun r z' K' N' I' R' => r = some (.int (zI (aMov 1 f rg))) ∧ CPc G x z K N I R (aMov 1 f rg) (fMov 1 f rg) f h s0 v0 P n len z' K' N' I' R') := by
  refine Con.of (own := RX6) (cc := cX6_take) (maxL := 2) (ret := (some .int)) (by decide +kernel) rfl rfl (Nat.le_of_ble_eq_true rfl) (by decide) rfl ?_
  intro p e9 s mt args below meth c Q hin hQ C
  obtain ⟨⟨cx, cr0, cr1, cr2, cr3, cr4⟩, ⟨cH, ⟨cS, cN⟩, cX, cP⟩, cT, ⟨cp, cn, cm, cJ⟩, cSl, cPd⟩ := id hC
  have kn := cT.1.1
  have kh := cH.1
  obtain ⟨q, hq⟩ := Int.eq_ofNat_of_zero_le cp.1
  have hq7 : q < 7 := by omega
  refine z_aload_n C dX6_take_0 rfl ?_
  refine z_gR C (ci := 6) (k := 1) rfl (by decide) rfl (by decide) wl_6 wq_1_20 (by decide) dX6_take_1 (by assumption) (by assumption) ?_
  refine z_aload_n C dX6_take_4 rfl ?_
  refine z_gR C (ci := 6) (k := 0) rfl (by decide) rfl (by decide) wl_6 wq_1_16 (by decide) dX6_take_5 (by assumption) (by assumption) ?_
  refine z_callVd C (ci := 2) rfl (by decide) (by first | assumption | exact hM.1) (mX2_remember l G cH cT.1 (by omega) hq hq7) (cwV 1 C.2.2.2.2.1 gv6_41 rfl rfl rfl hd_X2_remember ⟨Nat.le_of_ble_eq_true rfl, Nat.le_of_ble_eq_true rfl⟩) rfl rfl (Nat.le_of_ble_eq_true rfl) dX6_take_8 ⟨Nat.zero_le _, Nat.zero_le _⟩ ?_
  refine z_gen (fun I' R' => CI G x z K N I' R' f h s0 v0 P n len ∧ TQ G (x + 100) z K N I' R' (x + 13 + 10 * q) f ∧ ∀ a : Nat, (a < x + 13 ∨ x + 83 ≤ a) → I' a = I a ∧ R' a = R a) (hC.rem2 hq) ?_
  intro I1 R1 ⟨dC, dU, dF⟩
  obtain ⟨⟨ex, er0, er1, er2, er3, er4⟩, ⟨eH, ⟨eS, eN⟩, eX, eP⟩, eT, ⟨ep, en, em, eJ⟩, eSl, ePd⟩ := id dC
  have dq : I1 (x + 11) 1 = (q : Int) := by rw [(dF (x + 11) (by omega)).1]; exact hq
  have hf1 : FrM x z K N I R z K N I1 R1 := ⟨Nat.le_refl z, fun _ _ => ⟨rfl, rfl⟩, fun a h1 h2 => dF a (by omega)⟩
  refine z_aload_n C dX6_take_11 rfl ?_
  refine z_gR C (ci := 6) (k := 1) rfl (by decide) rfl (by decide) wl_6 wq_1_20 (by decide) dX6_take_12 (by assumption) (by assumption) ?_
  refine z_aload_n C dX6_take_15 rfl ?_
  refine z_gR C (ci := 6) (k := 0) rfl (by decide) rfl (by decide) wl_6 wq_1_16 (by decide) dX6_take_16 (by assumption) (by assumption) ?_
  refine z_iload_n C dX6_take_19 rfl ?_
  refine z_callVd C (ci := 4) rfl (by decide) (by first | assumption | exact hM.1) (mX4_takeOff l G eT.1 eT.2.1 eT.2.2.1 hrg) (cwV 1 C.2.2.2.2.1 gv6_63 rfl rfl rfl hd_X4_takeOff ⟨Nat.le_of_ble_eq_true rfl, Nat.le_of_ble_eq_true rfl⟩) rfl rfl (Nat.le_of_ble_eq_true rfl) dX6_take_20 ⟨Nat.zero_le _, Nat.zero_le _⟩ ?_
  refine z_top (y := .int (zI (aMov 1 f rg))) (congrArg (fun w => Value.int (zI w)) (ans_mov eT.2.2.1 1 rg)) ?_
  refine z_gen (fun I' R' => OpT G x z K N I1 R1 (fMov 1 f rg) I' R') (op_mov eT 1 rg) ?_
  intro I2 R2 ⟨oT, oF⟩
  have oS : StK x z K N I1 R1 z K N I2 R2 := StK.op oF
  have oC := dC.stp oS oT
  have oU := dU.stk oS (by omega)
  have oM := hf1.stk hx oS
  have oq : I2 (x + 11) 1 = (q : Int) := by rw [(oF (x + 11) (by omega)).1]; exact dq
  have oH := oC.2.1.1
  have koh := oH.1
  obtain ⟨og, on, ok, -⟩ := oC.2.2.2.1
  have aok := aMov_ok eT.2.2.1 1 rg
  refine z_callVd C (ci := 2) rfl (by decide) (by first | assumption | exact hM.1) (mX2_settle l G oH ⟨by have := aok.1.1; omega, aok.1.2⟩ og (by rw [on]; exact ok)) (cwV 1 C.2.2.2.2.1 gv6_49 rfl rfl rfl hd_X2_settle ⟨Nat.le_of_ble_eq_true rfl, Nat.le_of_ble_eq_true rfl⟩) rfl rfl (Nat.le_of_ble_eq_true rfl) dX6_take_23 ⟨Nat.zero_le _, Nat.zero_le _⟩ ?_
  exact z_iret2 C hQ rfl dX6_take_26 ⟨rfl, CPc_fin oC oq oU oM (fun z9 => aok.2.2 (fun c9 => z9 (aok.2.1.mpr c9)))⟩

set_option maxHeartbeats 4000000 in
set_option maxRecDepth 100000 in
theorem mX6_gauge (l : Launch) (G : GG) {z : Nat} {K N : Nat → Nat} {I : MI} {R : MR} {x : Nat} {f h s0 v0 P : Nat → Int} {n len : Int} (hC : CI G x z K N I R f h s0 v0 P n len) (hx : x + 100 ≤ z) {er pl sp : Int} (her : -2147483648 ≤ er ∧ er < 2147483648) (hpl : -2147483648 ≤ pl ∧ pl < 2147483648) (hsp : -2147483648 ≤ sp ∧ sp < 2147483648) : Con l G yX6_gauge (Cond.code yX6_gauge cX6_gauge 4 (some .int) :: wsL_law) ⟨5, 0, 0, 107⟩ 0 0 [.ref x, .int (zI er), .int (zI pl), .int (zI sp)] z K N I R (fun r z' K' N' I' R' => r = some (.int (zI (aGau f er pl sp))) ∧ CPc G x z K N I R (aGau f er pl sp) (fGau f er pl sp) f h s0 v0 P n len z' K' N' I' R') := by
  refine Con.of (own := RX6) (cc := cX6_gauge) (maxL := 4) (ret := (some .int)) (by decide +kernel) rfl rfl (Nat.le_of_ble_eq_true rfl) (by decide) rfl ?_
  intro p e9 s mt args below meth c Q hin hQ C
  obtain ⟨⟨cx, cr0, cr1, cr2, cr3, cr4⟩, ⟨cH, ⟨cS, cN⟩, cX, cP⟩, cT, ⟨cp, cn, cm, cJ⟩, cSl, cPd⟩ := id hC
  have kn := cT.1.1
  have kh := cH.1
  obtain ⟨q, hq⟩ := Int.eq_ofNat_of_zero_le cp.1
  have hq7 : q < 7 := by omega
  refine z_aload_n C dX6_gauge_0 rfl ?_
  refine z_gR C (ci := 6) (k := 1) rfl (by decide) rfl (by decide) wl_6 wq_1_20 (by decide) dX6_gauge_1 (by assumption) (by assumption) ?_
  refine z_aload_n C dX6_gauge_4 rfl ?_
  refine z_gR C (ci := 6) (k := 0) rfl (by decide) rfl (by decide) wl_6 wq_1_16 (by decide) dX6_gauge_5 (by assumption) (by assumption) ?_
  refine z_callVd C (ci := 2) rfl (by decide) (by first | assumption | exact hM.1) (mX2_remember l G cH cT.1 (by omega) hq hq7) (cwV 1 C.2.2.2.2.1 gv6_41 rfl rfl rfl hd_X2_remember ⟨Nat.le_of_ble_eq_true rfl, Nat.le_of_ble_eq_true rfl⟩) rfl rfl (Nat.le_of_ble_eq_true rfl) dX6_gauge_8 ⟨Nat.zero_le _, Nat.zero_le _⟩ ?_
  refine z_gen (fun I' R' => CI G x z K N I' R' f h s0 v0 P n len ∧ TQ G (x + 100) z K N I' R' (x + 13 + 10 * q) f ∧ ∀ a : Nat, (a < x + 13 ∨ x + 83 ≤ a) → I' a = I a ∧ R' a = R a) (hC.rem2 hq) ?_
  intro I1 R1 ⟨dC, dU, dF⟩
  obtain ⟨⟨ex, er0, er1, er2, er3, er4⟩, ⟨eH, ⟨eS, eN⟩, eX, eP⟩, eT, ⟨ep, en, em, eJ⟩, eSl, ePd⟩ := id dC
  have dq : I1 (x + 11) 1 = (q : Int) := by rw [(dF (x + 11) (by omega)).1]; exact hq
  have hf1 : FrM x z K N I R z K N I1 R1 := ⟨Nat.le_refl z, fun _ _ => ⟨rfl, rfl⟩, fun a h1 h2 => dF a (by omega)⟩
  refine z_aload_n C dX6_gauge_11 rfl ?_
  refine z_gR C (ci := 6) (k := 1) rfl (by decide) rfl (by decide) wl_6 wq_1_20 (by decide) dX6_gauge_12 (by assumption) (by assumption) ?_
  refine z_aload_n C dX6_gauge_15 rfl ?_
  refine z_gR C (ci := 6) (k := 0) rfl (by decide) rfl (by decide) wl_6 wq_1_16 (by decide) dX6_gauge_16 (by assumption) (by assumption) ?_
  refine z_iload_n C dX6_gauge_19 rfl ?_
  refine z_iload_n C dX6_gauge_20 rfl ?_
  refine z_iload_n C dX6_gauge_21 rfl ?_
  refine z_callVd C (ci := 4) rfl (by decide) (by first | assumption | exact hM.1) (mX4_addGauge l G eT.1 eT.2.1 eT.2.2.1 her hpl hsp) (cwV 3 C.2.2.2.2.1 gv6_66 rfl rfl rfl hd_X4_addGauge ⟨Nat.le_of_ble_eq_true rfl, Nat.le_of_ble_eq_true rfl⟩) rfl rfl (Nat.le_of_ble_eq_true rfl) dX6_gauge_22 ⟨Nat.zero_le _, Nat.zero_le _⟩ ?_
  refine z_top (y := .int (zI (aGau f er pl sp))) (congrArg (fun w => Value.int (zI w)) (rfl)) ?_
  refine z_gen (fun I' R' => OpT G x z K N I1 R1 (fGau f er pl sp) I' R') (op_gau eT er pl sp) ?_
  intro I2 R2 ⟨oT, oF⟩
  have oS : StK x z K N I1 R1 z K N I2 R2 := StK.op oF
  have oC := dC.stp oS oT
  have oU := dU.stk oS (by omega)
  have oM := hf1.stk hx oS
  have oq : I2 (x + 11) 1 = (q : Int) := by rw [(oF (x + 11) (by omega)).1]; exact dq
  have oH := oC.2.1.1
  have koh := oH.1
  obtain ⟨og, on, ok, -⟩ := oC.2.2.2.1
  have aok := aGau_ok eT.2.2.1 er pl sp
  refine z_callVd C (ci := 2) rfl (by decide) (by first | assumption | exact hM.1) (mX2_settle l G oH ⟨by have := aok.1.1; omega, aok.1.2⟩ og (by rw [on]; exact ok)) (cwV 1 C.2.2.2.2.1 gv6_49 rfl rfl rfl hd_X2_settle ⟨Nat.le_of_ble_eq_true rfl, Nat.le_of_ble_eq_true rfl⟩) rfl rfl (Nat.le_of_ble_eq_true rfl) dX6_gauge_25 ⟨Nat.zero_le _, Nat.zero_le _⟩ ?_
  exact z_iret2 C hQ rfl dX6_gauge_28 ⟨rfl, CPc_fin oC oq oU oM (fun z9 => aok.2.2 (fun c9 => z9 (aok.2.1.mpr c9)))⟩

set_option maxHeartbeats 4000000 in
set_option maxRecDepth 100000 in
theorem mX6_tune (l : Launch) (G : GG) {z : Nat} {K N : Nat → Nat} {I : MI} {R : MR} {x : Nat} {f h s0 v0 P : Nat → Int} {n len : Int} (hC : CI G x z K N I R f h s0 v0 P n len) (hx : x + 100 ≤ z) {gq er : Int} (hgq : -2147483648 ≤ gq ∧ gq < 2147483648) (her : -2147483648 ≤ er ∧ er < 2147483648) : Con l G yX6_tune (Cond.code yX6_tune cX6_tune 3 (some .int) :: wsL_law) ⟨5, 0, 0, 108⟩ 0 0 [.ref x, .int (zI gq), .int (zI er)] z K N I R (fun r z' K' N' I' R' => r = some (.int (zI (aTun f gq er))) ∧ CPc G x z K N I R (aTun f gq er) (fTun f gq er) f h s0 v0 P n len z' K' N' I' R') := by
  refine Con.of (own := RX6) (cc := cX6_tune) (maxL := 3) (ret := (some .int)) (by decide +kernel) rfl rfl (Nat.le_of_ble_eq_true rfl) (by decide) rfl ?_
  intro p e9 s mt args below meth c Q hin hQ C
  obtain ⟨⟨cx, cr0, cr1, cr2, cr3, cr4⟩, ⟨cH, ⟨cS, cN⟩, cX, cP⟩, cT, ⟨cp, cn, cm, cJ⟩, cSl, cPd⟩ := id hC
  have kn := cT.1.1
  have kh := cH.1
  obtain ⟨q, hq⟩ := Int.eq_ofNat_of_zero_le cp.1
  have hq7 : q < 7 := by omega
  refine z_aload_n C dX6_tune_0 rfl ?_
  refine z_gR C (ci := 6) (k := 1) rfl (by decide) rfl (by decide) wl_6 wq_1_20 (by decide) dX6_tune_1 (by assumption) (by assumption) ?_
  refine z_aload_n C dX6_tune_4 rfl ?_
  refine z_gR C (ci := 6) (k := 0) rfl (by decide) rfl (by decide) wl_6 wq_1_16 (by decide) dX6_tune_5 (by assumption) (by assumption) ?_
  refine z_callVd C (ci := 2) rfl (by decide) (by first | assumption | exact hM.1) (mX2_remember l G cH cT.1 (by omega) hq hq7) (cwV 1 C.2.2.2.2.1 gv6_41 rfl rfl rfl hd_X2_remember ⟨Nat.le_of_ble_eq_true rfl, Nat.le_of_ble_eq_true rfl⟩) rfl rfl (Nat.le_of_ble_eq_true rfl) dX6_tune_8 ⟨Nat.zero_le _, Nat.zero_le _⟩ ?_
  refine z_gen (fun I' R' => CI G x z K N I' R' f h s0 v0 P n len ∧ TQ G (x + 100) z K N I' R' (x + 13 + 10 * q) f ∧ ∀ a : Nat, (a < x + 13 ∨ x + 83 ≤ a) → I' a = I a ∧ R' a = R a) (hC.rem2 hq) ?_
  intro I1 R1 ⟨dC, dU, dF⟩
  obtain ⟨⟨ex, er0, er1, er2, er3, er4⟩, ⟨eH, ⟨eS, eN⟩, eX, eP⟩, eT, ⟨ep, en, em, eJ⟩, eSl, ePd⟩ := id dC
  have dq : I1 (x + 11) 1 = (q : Int) := by rw [(dF (x + 11) (by omega)).1]; exact hq
  have hf1 : FrM x z K N I R z K N I1 R1 := ⟨Nat.le_refl z, fun _ _ => ⟨rfl, rfl⟩, fun a h1 h2 => dF a (by omega)⟩
  refine z_aload_n C dX6_tune_11 rfl ?_
  refine z_gR C (ci := 6) (k := 1) rfl (by decide) rfl (by decide) wl_6 wq_1_20 (by decide) dX6_tune_12 (by assumption) (by assumption) ?_
  refine z_aload_n C dX6_tune_15 rfl ?_
  refine z_gR C (ci := 6) (k := 0) rfl (by decide) rfl (by decide) wl_6 wq_1_16 (by decide) dX6_tune_16 (by assumption) (by assumption) ?_
  refine z_iload_n C dX6_tune_19 rfl ?_
  refine z_iload_n C dX6_tune_20 rfl ?_
  refine z_callVd C (ci := 4) rfl (by decide) (by first | assumption | exact hM.1) (mX4_adjust l G eT.1 eT.2.1 eT.2.2.1 hgq her) (cwV 2 C.2.2.2.2.1 gv6_70 rfl rfl rfl hd_X4_adjust ⟨Nat.le_of_ble_eq_true rfl, Nat.le_of_ble_eq_true rfl⟩) rfl rfl (Nat.le_of_ble_eq_true rfl) dX6_tune_21 ⟨Nat.zero_le _, Nat.zero_le _⟩ ?_
  refine z_top (y := .int (zI (aTun f gq er))) (congrArg (fun w => Value.int (zI w)) (rfl)) ?_
  refine z_gen (fun I' R' => OpT G x z K N I1 R1 (fTun f gq er) I' R') (op_tun eT gq er) ?_
  intro I2 R2 ⟨oT, oF⟩
  have oS : StK x z K N I1 R1 z K N I2 R2 := StK.op oF
  have oC := dC.stp oS oT
  have oU := dU.stk oS (by omega)
  have oM := hf1.stk hx oS
  have oq : I2 (x + 11) 1 = (q : Int) := by rw [(oF (x + 11) (by omega)).1]; exact dq
  have oH := oC.2.1.1
  have koh := oH.1
  obtain ⟨og, on, ok, -⟩ := oC.2.2.2.1
  have aok := aTun_ok eT.2.2.1 gq er
  refine z_callVd C (ci := 2) rfl (by decide) (by first | assumption | exact hM.1) (mX2_settle l G oH ⟨by have := aok.1.1; omega, aok.1.2⟩ og (by rw [on]; exact ok)) (cwV 1 C.2.2.2.2.1 gv6_49 rfl rfl rfl hd_X2_settle ⟨Nat.le_of_ble_eq_true rfl, Nat.le_of_ble_eq_true rfl⟩) rfl rfl (Nat.le_of_ble_eq_true rfl) dX6_tune_24 ⟨Nat.zero_le _, Nat.zero_le _⟩ ?_
  exact z_iret2 C hQ rfl dX6_tune_27 ⟨rfl, CPc_fin oC oq oU oM (fun z9 => aok.2.2 (fun c9 => z9 (aok.2.1.mpr c9)))⟩

