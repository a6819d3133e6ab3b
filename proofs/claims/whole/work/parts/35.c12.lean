theorem md_k (g : Nat → Int) (v : Int) : md (st1 g 1 v) = md g := by
  funext j
  unfold md
  rw [st1_n (by omega), st1_n (by omega)]
def rnN (P : Nat → Int) (k : Nat) (nu g : Nat → Int) : Nat → Int := if isDg P (md g) then st1 nu k (tnV P (md g)) else nu
def rnG (P g : Nat → Int) : Nat → Int := if isDg P (md g) then st1 g 4 (tnF P (md g) 11) else g
def cmg (P g : Nat → Int) : Nat → Int := st1 g 4 (g 4 + nxB P (md g) 44)
theorem cmg_md (P g : Nat → Int) : md (cmg P g) = nxF P (md g) 44 := (md_nx P g 44).symm
theorem TOk.e_cmg {P g : Nat → Int} (h : TOk P (md g)) : TOk P (md (cmg P g)) := by rw [cmg_md]; exact h.nx (by omega)
theorem TOk.e_rnG {P g : Nat → Int} (h : TOk P (md g)) : TOk P (md (rnG P g)) := by
  have h2 := h.tn
  have h6 := (Fwd.tn P (md g)).1
  rw [md_6] at h6
  by_cases hd : isDg P (md g)
  · rw [show rnG P g = st1 g 4 (tnF P (md g) 11) from if_pos hd, md_c]
    refine ⟨?_, h.2.1, ?_⟩
    · rw [st1_n (by omega)]; exact h.1
    · have h3 := h2.2.2
      rw [h6] at h3
      rw [st1_s, st1_n (by omega), md_6]
      exact h3
  · rw [show rnG P g = g from if_neg hd]; exact h
theorem TOk.e_rvg {P g : Nat → Int} (h : TOk P (md g)) : TOk P (md (rvg P g)) := by rw [rvg_md]; exact h.nx (by omega)
/-- the order at g's place, its letter told: answers, numbers, fields -/
def g3F (P g : Nat → Int) : Nat → Int := st1 (st1 g 1 (sgV P g (g 4))) 4 (g 4 + 1)
def gaB (P g : Nat → Int) : Int := if isDg P (md (rvg P g)) then (if nxB P (md (rvG P g)) 44 = 0 then 0 else if isDg P (md (cmg P (rvG P g))) then (if nxB P (md (rnG P (cmg P (rvG P g)))) 44 = 0 then 0 else b2i (isDg P (md (cmg P (rnG P (cmg P (rvG P g))))))) else 0) else 0
def gaG (P g : Nat → Int) : Nat → Int := if isDg P (md (rvg P g)) then (if nxB P (md (rvG P g)) 44 = 0 then cmg P (rvG P g) else if isDg P (md (cmg P (rvG P g))) then (if nxB P (md (rnG P (cmg P (rvG P g)))) 44 = 0 then cmg P (rnG P (cmg P (rvG P g))) else rnG P (cmg P (rnG P (cmg P (rvG P g))))) else rnG P (cmg P (rvG P g))) else rvG P g
def gaN (P nu g : Nat → Int) : Nat → Int := if isDg P (md (rvg P g)) then (if nxB P (md (rvG P g)) 44 = 0 then rvN P nu g else if isDg P (md (cmg P (rvG P g))) then (if nxB P (md (rnG P (cmg P (rvG P g)))) 44 = 0 then rnN P 1 (rvN P nu g) (cmg P (rvG P g)) else rnN P 2 (rnN P 1 (rvN P nu g) (cmg P (rvG P g))) (cmg P (rnG P (cmg P (rvG P g))))) else rnN P 1 (rvN P nu g) (cmg P (rvG P g))) else rvN P nu g
def orB (P g : Nat → Int) : Int := if isNo (sgV P g (g 4)) then b2i (isDg P (md (g3F P g))) else if sgV P g (g 4) = 97 then b2i (isDg P (md (g3F P g))) else if sgV P g (g 4) = 103 then gaB P (g3F P g) else 0
def orG (P g : Nat → Int) : Nat → Int := if isNo (sgV P g (g 4)) then rnG P (g3F P g) else if sgV P g (g 4) = 97 then (if isDg P (md (g3F P g)) then st1 (g3F P g) 4 (g3F P g 4 + 1) else g3F P g) else if sgV P g (g 4) = 103 then gaG P (g3F P g) else st1 g 1 (sgV P g (g 4))
def orN (P nu g : Nat → Int) : Nat → Int := if isNo (sgV P g (g 4)) then rnN P 0 nu (g3F P g) else if sgV P g (g 4) = 97 then (if isDg P (md (g3F P g)) then st1 nu 0 (tdV P (md (g3F P g))) else nu) else if sgV P g (g 4) = 103 then gaN P nu (g3F P g) else nu
def seG (P g : Nat → Int) : Nat → Int := if 0 < g 4 then st1 g 4 (g 4 + nxB P (md g) 59) else g
def noB (P g : Nat → Int) : Int := if 0 < g 4 ∧ nxB P (md g) 59 = 0 then 0 else orB P (seG P g)
def noG (P g : Nat → Int) : Nat → Int := if 0 < g 4 ∧ nxB P (md g) 59 = 0 then seG P g else orG P (seG P g)
def noN (P nu g : Nat → Int) : Nat → Int := if 0 < g 4 ∧ nxB P (md g) 59 = 0 then nu else orN P nu (seG P g)
theorem TOk.e_seG {P g : Nat → Int} (h : TOk P (md g)) : TOk P (md (seG P g)) := by
  by_cases h0 : 0 < g 4
  · rw [show seG P g = st1 g 4 (g 4 + nxB P (md g) 59) from if_pos h0, ← md_nx]; exact h.nx (by omega)
  · rw [show seG P g = g from if_neg h0]; exact h
