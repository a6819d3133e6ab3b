section ZN
variable {p : Program} {l : Launch} {e : Env} {Rm : Room} {s : State} {m : MethodId} {args : Array Value} {below : List Frame} {meth : Method} {c : Code} {G : GG} {cc : ByteArray} {nL : Nat} {own : String} {ret : Option FieldType}
variable {Q : State → Prop} {cells slots z : Nat} {K N : Nat → Nat} {I : MI} {R : MR} {pc : Nat} {lv : List (Nat × Value)} {st : List Value}
theorem z_astoreN_n (C : Cx p l e Rm s m args below meth c G cc nL own ret) {j : Fin 4} (d : decode cc pc = .ok (.astore_n j, 1)) (hn : (j : Nat) < nL) (ho : lvo lv j = true) (k : Zq p l e Rm s m args below meth c G nL Q cells slots z K N I R (pc + 1) (lvs lv j .null) st) : Zq p l e Rm s m args below meth c G nL Q cells slots z K N I R pc lv (.null :: st) := fun H locs ls hW hL hl hd =>
  lv_astore_nN C.1 C.2.1 d rfl hl hn rfl (fun ls1 h1 => k H locs ls1 hW hL (lvs_has hd ho h1) (lvs_d _ _ _ hd))
theorem z_astoreN (C : Cx p l e Rm s m args below meth c G cc nL own ret) {j : Nat} (d : decode cc pc = .ok (.astore j, 2)) (hn : j < nL) (ho : lvo lv j = true) (k : Zq p l e Rm s m args below meth c G nL Q cells slots z K N I R (pc + 2) (lvs lv j .null) st) : Zq p l e Rm s m args below meth c G nL Q cells slots z K N I R pc lv (.null :: st) := fun H locs ls hW hL hl hd =>
  lv_astoreN C.1 C.2.1 d hl hn rfl (fun ls1 h1 => k H locs ls1 hW hL (lvs_has hd ho h1) (lvs_d _ _ _ hd))
theorem z_aloadN_n (C : Cx p l e Rm s m args below meth c G cc nL own ret) {j : Fin 4} (d : decode cc pc = .ok (.aload_n j, 1)) (h : lvg lv j = some .null) (k : Zq p l e Rm s m args below meth c G nL Q cells slots z K N I R (pc + 1) lv (.null :: st)) : Zq p l e Rm s m args below meth c G nL Q cells slots z K N I R pc lv st := fun H locs ls hW hL hl hd =>
  lv_aload_nN C.1 C.2.1 d rfl (lvg_at hl h) (k H locs ls hW hL hl hd)
theorem z_aloadN (C : Cx p l e Rm s m args below meth c G cc nL own ret) {j : Nat} (d : decode cc pc = .ok (.aload j, 2)) (h : lvg lv j = some .null) (k : Zq p l e Rm s m args below meth c G nL Q cells slots z K N I R (pc + 2) lv (.null :: st)) : Zq p l e Rm s m args below meth c G nL Q cells slots z K N I R pc lv st := fun H locs ls hW hL hl hd =>
  lv_aloadN C.1 C.2.1 d (lvg_at hl h) (k H locs ls hW hL hl hd)
theorem z_nonnullN (C : Cx p l e Rm s m args below meth c G cc nL own ret) {off : Int} (d : decode cc pc = .ok (.ifnonnull off, 3)) (k : Zq p l e Rm s m args below meth c G nL Q cells slots z K N I R (pc + 3) lv st) : Zq p l e Rm s m args below meth c G nL Q cells slots z K N I R pc lv (.null :: st) := fun H locs ls hW hL hl hd =>
  lv_ifnonnullN C.1 C.2.1 d (k H locs ls hW hL hl hd)
theorem z_nonnullR (C : Cx p l e Rm s m args below meth c G cc nL own ret) {x : Nat} {off : Int} {tgt : Nat} (d : decode cc pc = .ok (.ifnonnull off, 3)) (ht : (pc : Int) + off = (tgt : Int)) (k : Zq p l e Rm s m args below meth c G nL Q cells slots z K N I R tgt lv st) : Zq p l e Rm s m args below meth c G nL Q cells slots z K N I R pc lv (.ref x :: st) := fun H locs ls hW hL hl hd =>
  lv_ifnonnull C.1 C.2.1 d ht (k H locs ls hW hL hl hd)
theorem z_isnullN (C : Cx p l e Rm s m args below meth c G cc nL own ret) {off : Int} {tgt : Nat} (d : decode cc pc = .ok (.ifnull off, 3)) (ht : (pc : Int) + off = (tgt : Int)) (k : Zq p l e Rm s m args below meth c G nL Q cells slots z K N I R tgt lv st) : Zq p l e Rm s m args below meth c G nL Q cells slots z K N I R pc lv (.null :: st) := fun H locs ls hW hL hl hd =>
  lv_ifnullN C.1 C.2.1 d ht (k H locs ls hW hL hl hd)
theorem z_isnullR (C : Cx p l e Rm s m args below meth c G cc nL own ret) {x : Nat} {off : Int} (d : decode cc pc = .ok (.ifnull off, 3)) (k : Zq p l e Rm s m args below meth c G nL Q cells slots z K N I R (pc + 3) lv st) : Zq p l e Rm s m args below meth c G nL Q cells slots z K N I R pc lv (.ref x :: st) := fun H locs ls hW hL hl hd =>
  lv_ifnull C.1 C.2.1 d (k H locs ls hW hL hl hd)
end ZN
theorem TN.gr {I : MI} {t : Nat} {f : Nat → Int} (h : TN I t f) {q : Nat} (hq : f 3 ≤ q) (v : Int) : TN (u2 I (t + 2) q v) t f := by
  obtain ⟨⟨a, b, c⟩, ⟨d, e, k⟩, m, n⟩ := h
  refine ⟨⟨?_, ?_, ?_⟩, ⟨?_, ?_, ?_⟩, fun r hr => ?_, fun g hg => ?_⟩
  · rw [u2_row (by omega)]; exact a
  · rw [u2_row (by omega)]; exact b
  · rw [u2_row (by omega)]; exact c
  · rw [u2_row (by omega)]; exact d
  · rw [u2_row (by omega)]; exact e
  · rw [u2_row (by omega)]; exact k
  · rw [u2_k (by omega)]; exact m r hr
  · rw [u2_row (by omega)]; exact n g hg
theorem TN.comes {I : MI} {t : Nat} {f : Nat → Int} (h : TN I t f) (h14 : f 3 < 14) (h0 : 0 ≤ f 3) (v : Int) : TN (u2 (u2 I (t + 2) (f 3).toNat v) t 3 (f 3 + 1)) t (comesF f v) := by
  obtain ⟨⟨a, b, c⟩, ⟨d, e, k⟩, m, n⟩ := h
  refine TN.voids (f := st1 (st1 f (6 + (f 3).toNat) v) 3 (f 3 + 1)) ?_ (by rw [st1_s]; omega)
  refine ⟨⟨?_, ?_, ?_⟩, ⟨?_, ?_, ?_⟩, fun r hr => ?_, fun g hg => ?_⟩
  · rw [u2_row (by omega), u2_row (by omega), st1_n (by omega), st1_n (by omega)]; exact a
  · rw [u2_row (by omega), u2_row (by omega), st1_n (by omega), st1_n (by omega)]; exact b
  · rw [u2_row (by omega), u2_row (by omega), st1_n (by omega), st1_n (by omega)]; exact c
  · rw [u2_s, st1_s]
  · rw [u2_k (by omega), u2_row (by omega), st1_n (by omega), st1_n (by omega)]; exact e
  · rw [u2_k (by omega), u2_row (by omega), st1_n (by omega), st1_n (by omega)]; exact k
  · rw [st1_s] at hr
    rw [u2_row (by omega), st1_n (by omega)]
    by_cases hr2 : r = (f 3).toNat
    · rw [hr2, u2_s, st1_s]
    · rw [u2_k hr2, st1_n (by omega)]; exact m r (by omega)
  · rw [st1_n (by omega), st1_n (by omega)] at hg
    rw [u2_row (by omega), u2_row (by omega), st1_n (by omega), st1_n (by omega), st1_n (by omega), st1_n (by omega), st1_n (by omega), st1_n (by omega), st1_n (by omega), st1_n (by omega)]; exact n g hg
theorem TN.mov {I : MI} {t : Nat} {f : Nat → Int} (h : TN I t f) (q : Nat) : TN (u2 I t 4 (flipb (f 4) q)) t (movV f q) := by
  obtain ⟨⟨a, b, c⟩, ⟨d, e, k⟩, m, n⟩ := h
  have hm : ∀ j : Nat, j ≠ 4 → movV f q j = f j := fun j hj => st1_n hj
  have h4 : movV f q 4 = flipb (f 4) q := st1_s _ _ _
  refine ⟨⟨?_, ?_, ?_⟩, ⟨?_, ?_, ?_⟩, fun r hr => ?_, fun g hg => ?_⟩
  · rw [u2_row (by omega), hm _ (by omega)]; exact a
  · rw [u2_row (by omega), hm _ (by omega)]; exact b
  · rw [u2_row (by omega), hm _ (by omega)]; exact c
  · rw [u2_k (by omega), hm _ (by omega)]; exact d
  · rw [u2_s, h4]
  · rw [u2_k (by omega), hm _ (by omega)]; exact k
  · rw [hm _ (by omega)] at hr
    rw [u2_row (by omega), hm _ (by omega)]; exact m r hr
  · rw [hm _ (by omega)] at hg
    rw [u2_row (by omega), hm _ (by omega), hm _ (by omega), hm _ (by omega), hm _ (by omega)]; exact n g hg
theorem TN.lose {I : MI} {t : Nat} {f : Nat → Int} (h : TN I t f) (h0 : 0 < f 3) (h14 : f 3 ≤ 14) : TN (u2 (u2 I t 3 (f 3 - 1)) t 4 (clrb (f 4) (f 3 - 1).toNat)) t (loseV f) := by
  obtain ⟨⟨a, b, c⟩, ⟨d, e, k⟩, m, n⟩ := h
  refine TN.voids (f := st1 (st1 (st1 f 3 (f 3 - 1)) (6 + (f 3 - 1).toNat) 0) 4 (clrb (f 4) (f 3 - 1).toNat)) ?_ (by rw [st1_n (by omega), st1_n (by omega), st1_s]; omega)
  refine ⟨⟨?_, ?_, ?_⟩, ⟨?_, ?_, ?_⟩, fun r hr => ?_, fun g hg => ?_⟩
  · rw [u2_row (by omega), u2_row (by omega), st1_n (by omega), st1_n (by omega), st1_n (by omega)]; exact a
  · rw [u2_row (by omega), u2_row (by omega), st1_n (by omega), st1_n (by omega), st1_n (by omega)]; exact b
  · rw [u2_row (by omega), u2_row (by omega), st1_n (by omega), st1_n (by omega), st1_n (by omega)]; exact c
  · rw [u2_k (by omega), u2_s, st1_n (by omega), st1_n (by omega), st1_s]
  · rw [u2_s, st1_s]
  · rw [u2_k (by omega), u2_k (by omega), st1_n (by omega), st1_n (by omega), st1_n (by omega)]; exact k
  · rw [st1_n (by omega), st1_n (by omega), st1_s] at hr
    rw [u2_row (by omega), u2_row (by omega), st1_n (by omega), st1_n (by omega), st1_n (by omega)]; exact m r (by omega)
  · rw [st1_n (by omega), st1_n (by omega), st1_n (by omega)] at hg
    rw [u2_row (by omega), u2_row (by omega), st1_n (by omega), st1_n (by omega), st1_n (by omega), st1_n (by omega), st1_n (by omega), st1_n (by omega), st1_n (by omega), st1_n (by omega), st1_n (by omega), st1_n (by omega), st1_n (by omega), st1_n (by omega)]; exact n g hg
theorem loseV_5 (f : Nat → Int) (h : f 3 ≤ 14) : loseV f 5 = f 5 := by
  unfold loseV
  rw [voidsF_lo (by omega), st1_n (by omega), st1_n (by omega), st1_n (by omega)]
theorem clrb_flip {a : Int} {r : Nat} (h : a / 2 ^ r % 2 = 1) : clrb a r = flipb a r := by unfold clrb flipb; rw [if_pos h, if_pos h]
set_option maxHeartbeats 4000000 in
set_option maxRecDepth 100000 in
theorem mX4_addRing (l : Launch) (G : GG) {z : Nat} {K N : Nat → Nat} {I : MI} {R : MR} {t : Nat} (hM : ShT G z K N R t) {f : Nat → Int} (hV : TN I t f) (hO : Ok f) {v : Int} (hv : -2147483648 ≤ v ∧ v < 2147483648) : Cod l G yX4_addRing (Cond.code yX4_addRing cX4_addRing 2 (some .int) :: wsL_law) ⟨1, 0, 0, 21⟩ [.ref t, .int (zI v)] z K N I R (some (.int (zI (if 1 ≤ v ∧ v ≤ 9999 then (if f 3 = 14 then -4 else f 3) else -2)))) (if (1 ≤ v ∧ v ≤ 9999) ∧ ¬ f 3 = 14 then u2 (u2 I (t + 2) (f 3).toNat v) t 3 (f 3 + 1) else I) (if (1 ≤ v ∧ v ≤ 9999) ∧ ¬ f 3 = 14 then voR R t (f 5).toNat else R) := by
  refine Con.of (own := RX4) (cc := cX4_addRing) (maxL := 2) (ret := (some .int)) (by decide +kernel) rfl rfl (Nat.le_of_ble_eq_true rfl) (by decide) rfl ?_
  intro p e9 s mt args below meth c Q hin hQ C
  obtain ⟨ho, ⟨r0, r1, r2⟩, ⟨k1, k2, k3⟩, ⟨n1, n2, n3⟩, hg⟩ := id hM
  obtain ⟨⟨v0, v1, v2⟩, ⟨v3, v4, v5⟩, vr, vg⟩ := id hV
  obtain ⟨b0, b1, b2, b3, b4, b5, br, bg⟩ := id hO
  have b4b := Ok4 hO
  refine z_iload_n C dX4_addRing_0 rfl ?_
  refine z_iconst C dX4_addRing_1 ?_
  refine z_icmp_lt C (tgt := 12) dX4_addRing_2 (by decide) (by first | omega | exact b2i_r) (by first | omega | exact b2i_r) (fun h2 => ?_) (fun h2 => ?_)
  · refine z_bipush C dX4_addRing_12 (by decide) ?_
    exact z_iret2 C hQ rfl dX4_addRing_14 ⟨zr (by first | (rw [if_pos (by omega), if_neg (by omega)]; done) | (rw [if_pos (by omega), if_pos (by omega)]; done) | rw [if_neg (by omega)]), rfl, rfl, rfl, by first | rw [if_pos (by omega)] | rw [if_neg (by omega)], by first | rw [if_pos (by omega)] | rw [if_neg (by omega)]⟩
  · refine z_iload_n C dX4_addRing_5 rfl ?_
    refine z_sipush C dX4_addRing_6 (by decide) ?_
    refine z_icmp_le C (tgt := 15) dX4_addRing_9 (by decide) (by first | omega | exact b2i_r) (by first | omega | exact b2i_r) (fun h9 => ?_) (fun h9 => ?_)
    · refine z_aload_n C dX4_addRing_15 rfl ?_
      refine z_gI C (ci := 4) (k := 3) rfl (by decide) rfl (by decide) wl_4 wq_5_3 rfl dX4_addRing_16 (by assumption) ?_
      refine z_bipush C dX4_addRing_19 (by decide) ?_
      refine z_icmp_lt C (tgt := 27) dX4_addRing_21 (by decide) (by first | omega | exact b2i_r) (by first | omega | exact b2i_r) (fun h21 => ?_) (fun h21 => ?_)
      · refine z_aload_n C dX4_addRing_27 rfl ?_
        refine z_gR C (ci := 4) (k := 1) rfl (by decide) rfl (by decide) wl_4 wq_2_18 (by decide) dX4_addRing_28 (by assumption) (by assumption) ?_
        refine z_aload_n C dX4_addRing_31 rfl ?_
        refine z_gI C (ci := 4) (k := 3) rfl (by decide) rfl (by decide) wl_4 wq_5_3 rfl dX4_addRing_32 (by assumption) ?_
        refine z_iload_n C dX4_addRing_35 rfl ?_
        refine z_iastk C ((f 3).toNat) dX4_addRing_36 (by assumption) (by first | rfl | omega) (by omega) (by omega) ?_
        refine z_aload_n C dX4_addRing_37 rfl ?_
        refine z_callVd C (ci := 4) rfl (by decide) (by first | assumption | exact hM.1) (mX4_voidCertificates l G hM (hV.gr (q := (f 3).toNat) (by omega) v) hO) (cwV 0 C.2.2.2.2.1 gv4_59 rfl rfl rfl hd_X4_voidCertificates ⟨Nat.le_of_ble_eq_true rfl, Nat.le_of_ble_eq_true rfl⟩) rfl rfl (Nat.le_of_ble_eq_true rfl) dX4_addRing_38 ⟨Nat.zero_le _, Nat.zero_le _⟩ ?_
        refine z_aload_n C dX4_addRing_41 rfl ?_
        refine z_dup C dX4_addRing_42 rfl ?_
        refine z_gI C (ci := 4) (k := 3) rfl (by decide) rfl (by decide) wl_4 wq_5_3 rfl dX4_addRing_43 (by assumption) ?_
        rw [u2_row (by omega), v3]
        refine z_dup_x1 C dX4_addRing_46 rfl rfl ?_
        refine z_iconst C dX4_addRing_47 ?_
        refine z_iadd C dX4_addRing_48 ?_
        refine z_pI C (ci := 4) (k := 3) rfl (by decide) rfl (by decide) tyX4_ok nmX4 wl_4 wq_5_3 rfl (Or.inl rfl) dX4_addRing_49 (by assumption) ?_
        exact z_iret2 C hQ rfl dX4_addRing_52 ⟨zr (by first | (rw [if_pos (by omega), if_neg (by omega)]; done) | (rw [if_pos (by omega), if_pos (by omega)]; done) | rw [if_neg (by omega)]), rfl, rfl, rfl, by first | rw [if_pos (by omega)] | rw [if_neg (by omega)], by first | rw [if_pos (by omega)] | rw [if_neg (by omega)]⟩
      · refine z_bipush C dX4_addRing_24 (by decide) ?_
        exact z_iret2 C hQ rfl dX4_addRing_26 ⟨zr (by first | (rw [if_pos (by omega), if_neg (by omega)]; done) | (rw [if_pos (by omega), if_pos (by omega)]; done) | rw [if_neg (by omega)]), rfl, rfl, rfl, by first | rw [if_pos (by omega)] | rw [if_neg (by omega)], by first | rw [if_pos (by omega)] | rw [if_neg (by omega)]⟩
    · refine z_bipush C dX4_addRing_12 (by decide) ?_
      exact z_iret2 C hQ rfl dX4_addRing_14 ⟨zr (by first | (rw [if_pos (by omega), if_neg (by omega)]; done) | (rw [if_pos (by omega), if_pos (by omega)]; done) | rw [if_neg (by omega)]), rfl, rfl, rfl, by first | rw [if_pos (by omega)] | rw [if_neg (by omega)], by first | rw [if_pos (by omega)] | rw [if_neg (by omega)]⟩

set_option maxHeartbeats 4000000 in
set_option maxRecDepth 100000 in
theorem mX4_dropRing (l : Launch) (G : GG) {z : Nat} {K N : Nat → Nat} {I : MI} {R : MR} {t : Nat} (hM : ShT G z K N R t) {f : Nat → Int} (hV : TN I t f) (hO : Ok f)  : Cod l G yX4_dropRing (Cond.code yX4_dropRing cX4_dropRing 1 (some .int) :: wsL_law) ⟨5, 0, 0, 106⟩ [.ref t] z K N I R (some (.int (zI (if f 3 = 0 then -5 else f (6 + (f 3 - 1).toNat))))) (if f 3 = 0 then I else haI (u2 (u2 I t 3 (f 3 - 1)) t 4 (clrb (f 4) (f 3 - 1).toNat)) t (prsA (loseV f) ((loseV f) 4)) (f 5).toNat) (if f 3 = 0 then R else voR R t (f 5).toNat) := by
  refine Con.of (own := RX4) (cc := cX4_dropRing) (maxL := 1) (ret := (some .int)) (by decide +kernel) rfl rfl (Nat.le_of_ble_eq_true rfl) (by decide) rfl ?_
  intro p e9 s mt args below meth c Q hin hQ C
  obtain ⟨ho, ⟨r0, r1, r2⟩, ⟨k1, k2, k3⟩, ⟨n1, n2, n3⟩, hg⟩ := id hM
  obtain ⟨⟨v0, v1, v2⟩, ⟨v3, v4, v5⟩, vr, vg⟩ := id hV
  obtain ⟨b0, b1, b2, b3, b4, b5, br, bg⟩ := id hO
  have b4b := Ok4 hO
  refine z_aload_n C dX4_dropRing_0 rfl ?_
  refine z_gI C (ci := 4) (k := 3) rfl (by decide) rfl (by decide) wl_4 wq_5_3 rfl dX4_dropRing_1 (by assumption) ?_
  refine z_iconst C dX4_dropRing_4 ?_
  refine z_icmp_ge C (tgt := 11) dX4_dropRing_5 (by decide) (by first | omega | exact b2i_r) (by first | omega | exact b2i_r) (fun h5 => ?_) (fun h5 => ?_)
  · have hOl := hO.h_loseV (show 0 < f 3 by omega)
    have hl5 := loseV_5 f b3.2
    have r1v : voR R t (f 5).toNat t 1 = some (t + 2) := by rw [voR_n _ _ _ _ _ (by omega)]; exact r1
    refine z_aload_n C dX4_dropRing_11 rfl ?_
    refine z_dup C dX4_dropRing_12 rfl ?_
    refine z_gI C (ci := 4) (k := 3) rfl (by decide) rfl (by decide) wl_4 wq_5_3 rfl dX4_dropRing_13 (by assumption) ?_
    rw [v3]
    refine z_iconst C dX4_dropRing_16 ?_
    refine z_isub C dX4_dropRing_17 ?_
    refine z_pI C (ci := 4) (k := 3) rfl (by decide) rfl (by decide) tyX4_ok nmX4 wl_4 wq_5_3 rfl (Or.inl rfl) dX4_dropRing_18 (by assumption) ?_
    refine z_aload_n C dX4_dropRing_21 rfl ?_
    refine z_dup C dX4_dropRing_22 rfl ?_
    refine z_gI C (ci := 4) (k := 4) rfl (by decide) rfl (by decide) wl_4 wq_5_4 rfl dX4_dropRing_23 (by assumption) ?_
    rw [u2_k (by omega), v4]
    refine z_iconst C dX4_dropRing_26 ?_
    refine z_aload_n C dX4_dropRing_27 rfl ?_
    refine z_gI C (ci := 4) (k := 3) rfl (by decide) rfl (by decide) wl_4 wq_5_3 rfl dX4_dropRing_28 (by assumption) ?_
    rw [u2_s]
    refine z_ishl C dX4_dropRing_31 (zI_shl (by omega)) ?_
    refine z_iconst C dX4_dropRing_32 ?_
    refine z_ixor C dX4_dropRing_33 rfl ?_
    refine z_iand C dX4_dropRing_34 (zI_clrb (by omega) _) ?_
    refine z_pI C (ci := 4) (k := 4) rfl (by decide) rfl (by decide) tyX4_ok nmX4 wl_4 wq_5_4 rfl (Or.inl rfl) dX4_dropRing_35 (by assumption) ?_
    refine z_aload_n C dX4_dropRing_38 rfl ?_
    refine z_callVd C (ci := 4) rfl (by decide) (by first | assumption | exact hM.1) (mX4_voidCertificates l G hM (hV.lose (by omega) b3.2) hOl) (cwV 0 C.2.2.2.2.1 gv4_59 rfl rfl rfl hd_X4_voidCertificates ⟨Nat.le_of_ble_eq_true rfl, Nat.le_of_ble_eq_true rfl⟩) rfl rfl (Nat.le_of_ble_eq_true rfl) dX4_dropRing_39 ⟨Nat.zero_le _, Nat.zero_le _⟩ ?_
    rw [hl5]
    refine z_aload_n C dX4_dropRing_42 rfl ?_
    refine z_callVd C (ci := 4) rfl (by decide) (by first | assumption | exact hM.1) (mX4_moveHands l G (hM.vo _) (hV.lose (by omega) b3.2) hOl) (cwV 0 C.2.2.2.2.1 gv4_62 rfl rfl rfl hd_X4_moveHands ⟨Nat.le_of_ble_eq_true rfl, Nat.le_of_ble_eq_true rfl⟩) rfl rfl (Nat.le_of_ble_eq_true rfl) dX4_dropRing_43 ⟨Nat.zero_le _, Nat.zero_le _⟩ ?_
    rw [hl5]
    refine z_pop C dX4_dropRing_46 rfl ?_
    refine z_aload_n C dX4_dropRing_47 rfl ?_
    refine z_gR C (ci := 4) (k := 1) rfl (by decide) rfl (by decide) wl_4 wq_2_18 (by decide) dX4_dropRing_48 (by assumption) (by assumption) ?_
    refine z_aload_n C dX4_dropRing_51 rfl ?_
    refine z_gI C (ci := 4) (k := 3) rfl (by decide) rfl (by decide) wl_4 wq_5_3 rfl dX4_dropRing_52 (by assumption) ?_
    rw [haI_n _ _ _ _ _ _ (by omega), u2_k (by omega), u2_s]
    refine z_ialdk C ((f 3 - 1).toNat) dX4_dropRing_55 (by assumption) (by first | rfl | omega) (by omega) (by omega) ?_
    rw [haI_n _ _ _ _ _ _ (by omega), u2_row (by omega), u2_row (by omega), vr _ (by omega)]
    exact z_iret2 C hQ rfl dX4_dropRing_56 ⟨zr (by first | rw [if_neg (by omega)] | rw [if_pos (by omega)]), rfl, rfl, rfl, by first | rw [if_neg (by omega)] | rw [if_pos (by omega)], by first | rw [if_neg (by omega)] | rw [if_pos (by omega)]⟩
  · refine z_bipush C dX4_dropRing_8 (by decide) ?_
    exact z_iret2 C hQ rfl dX4_dropRing_10 ⟨zr (by first | rw [if_neg (by omega)] | rw [if_pos (by omega)]), rfl, rfl, rfl, by first | rw [if_neg (by omega)] | rw [if_pos (by omega)], by first | rw [if_neg (by omega)] | rw [if_pos (by omega)]⟩

set_option maxHeartbeats 4000000 in
set_option maxRecDepth 100000 in
theorem mX4_putOn (l : Launch) (G : GG) {z : Nat} {K N : Nat → Nat} {I : MI} {R : MR} {t : Nat} (hM : ShT G z K N R t) {f : Nat → Int} (hV : TN I t f) (hO : Ok f) {rg : Int} (hrg : -2147483648 ≤ rg ∧ rg < 2147483648) : Cod l G yX4_putOn (Cond.code yX4_putOn cX4_putOn 2 (some .int) :: wsL_law) ⟨5, 0, 0, 106⟩ [.ref t, .int (zI rg)] z K N I R (some (.int (zI (if 0 ≤ rg ∧ rg ≤ f 3 - 1 then (if f 4 / 2 ^ rg.toNat % 2 = 0 then prsA (movV f rg.toNat) ((movV f rg.toNat) 4) else -5) else -1)))) (if (0 ≤ rg ∧ rg ≤ f 3 - 1) ∧ f 4 / 2 ^ rg.toNat % 2 = 0 then haI (u2 I t 4 (flipb (f 4) rg.toNat)) t (prsA (movV f rg.toNat) ((movV f rg.toNat) 4)) ((movV f rg.toNat) 5).toNat else I) R := by
  refine Con.of (own := RX4) (cc := cX4_putOn) (maxL := 2) (ret := (some .int)) (by decide +kernel) rfl rfl (Nat.le_of_ble_eq_true rfl) (by decide) rfl ?_
  intro p e9 s mt args below meth c Q hin hQ C
  obtain ⟨ho, ⟨r0, r1, r2⟩, ⟨k1, k2, k3⟩, ⟨n1, n2, n3⟩, hg⟩ := id hM
  obtain ⟨⟨v0, v1, v2⟩, ⟨v3, v4, v5⟩, vr, vg⟩ := id hV
  obtain ⟨b0, b1, b2, b3, b4, b5, br, bg⟩ := id hO
  have b4b := Ok4 hO
  refine z_aload_n C dX4_putOn_0 rfl ?_
  refine z_iload_n C dX4_putOn_1 rfl ?_
  refine z_callVd C (ci := 4) rfl (by decide) (by first | assumption | exact hM.1) (mX4_hasRing l G hM hV hO hrg) (cwV 1 C.2.2.2.2.1 gv4_66 rfl rfl rfl hd_X4_hasRing ⟨Nat.le_of_ble_eq_true rfl, Nat.le_of_ble_eq_true rfl⟩) rfl rfl (Nat.le_of_ble_eq_true rfl) dX4_putOn_2 ⟨Nat.zero_le _, Nat.zero_le _⟩ ?_
  rw [v3]
  refine z_if_ne C (tgt := 10) dX4_putOn_5 (by decide) (by first | omega | exact b2i_r) (fun h5 => ?_) (fun h5 => ?_)
  · have hb := b2i_1.mp h5
    obtain ⟨n9, rfl⟩ := Int.eq_ofNat_of_zero_le (show 0 ≤ rg by omega)
    simp only [Int.toNat_natCast] at hQ
    refine z_aload_n C dX4_putOn_10 rfl ?_
    refine z_iload_n C dX4_putOn_11 rfl ?_
    refine z_callVd C (ci := 4) rfl (by decide) (by first | assumption | exact hM.1) (mX4_isStacked l G hM hV hO (by omega)) (cwV 1 C.2.2.2.2.1 gv4_70 rfl rfl rfl hd_X4_isStacked ⟨Nat.le_of_ble_eq_true rfl, Nat.le_of_ble_eq_true rfl⟩) rfl rfl (Nat.le_of_ble_eq_true rfl) dX4_putOn_12 ⟨Nat.zero_le _, Nat.zero_le _⟩ ?_
    rw [v4]
    have h01 := bit01 (f 4 / 2 ^ (n9 : Int).toNat)
    refine z_if_eq C (tgt := 21) dX4_putOn_15 (by decide) (by first | omega | exact b2i_r) (fun h15 => ?_) (fun h15 => ?_)
    · have hz9 : f 4 / 2 ^ n9 % 2 = 0 := h15
      refine z_aload_n C dX4_putOn_21 rfl ?_
      refine z_dup C dX4_putOn_22 rfl ?_
      refine z_gI C (ci := 4) (k := 4) rfl (by decide) rfl (by decide) wl_4 wq_5_4 rfl dX4_putOn_23 (by assumption) ?_
      rw [v4]
      refine z_iconst C dX4_putOn_26 ?_
      refine z_iload_n C dX4_putOn_27 rfl ?_
      refine z_ishl C dX4_putOn_28 (zI_shl (by omega)) ?_
      refine z_ior C dX4_putOn_29 (zI_orb (by omega) (show ¬ f 4 / 2 ^ n9 % 2 = 1 by omega)) ?_
      refine z_pI C (ci := 4) (k := 4) rfl (by decide) rfl (by decide) tyX4_ok nmX4 wl_4 wq_5_4 rfl (Or.inl rfl) dX4_putOn_30 (by assumption) ?_
      rw [show f 4 + 2 ^ (n9 : Int).toNat = flipb (f 4) n9 from by unfold flipb; rw [if_neg (by omega)]; rfl]
      refine z_aload_n C dX4_putOn_33 rfl ?_
      refine z_callVd C (ci := 4) rfl (by decide) (by first | assumption | exact hM.1) (mX4_moveHands l G hM (hV.mov n9) (hO.h_movV (by omega))) (cwV 0 C.2.2.2.2.1 gv4_62 rfl rfl rfl hd_X4_moveHands ⟨Nat.le_of_ble_eq_true rfl, Nat.le_of_ble_eq_true rfl⟩) rfl rfl (Nat.le_of_ble_eq_true rfl) dX4_putOn_34 ⟨Nat.zero_le _, Nat.zero_le _⟩ ?_
      exact z_iret2 C hQ rfl dX4_putOn_37 ⟨zr (by first | (rw [if_pos hb, if_pos hz9]; done) | (rw [if_pos hb, if_neg hz9]; done) | rw [if_neg hb]), rfl, rfl, rfl, by first | (rw [if_pos ⟨hb, hz9⟩]; done) | rw [if_neg (fun z => hz9 z.2)] | rw [if_neg (fun z => hb z.1)], rfl⟩
    · have hz9 : ¬ f 4 / 2 ^ n9 % 2 = 0 := h15
      refine z_bipush C dX4_putOn_18 (by decide) ?_
      exact z_iret2 C hQ rfl dX4_putOn_20 ⟨zr (by first | (rw [if_pos hb, if_pos hz9]; done) | (rw [if_pos hb, if_neg hz9]; done) | rw [if_neg hb]), rfl, rfl, rfl, by first | (rw [if_pos ⟨hb, hz9⟩]; done) | rw [if_neg (fun z => hz9 z.2)] | rw [if_neg (fun z => hb z.1)], rfl⟩
  · have hb := b2i_0.mp h5
    refine z_iconst C dX4_putOn_8 ?_
    exact z_iret2 C hQ rfl dX4_putOn_9 ⟨zr (by first | (rw [if_pos hb, if_pos hz9]; done) | (rw [if_pos hb, if_neg hz9]; done) | rw [if_neg hb]), rfl, rfl, rfl, by first | (rw [if_pos ⟨hb, hz9⟩]; done) | rw [if_neg (fun z => hz9 z.2)] | rw [if_neg (fun z => hb z.1)], rfl⟩

set_option maxHeartbeats 4000000 in
set_option maxRecDepth 100000 in
theorem mX4_takeOff (l : Launch) (G : GG) {z : Nat} {K N : Nat → Nat} {I : MI} {R : MR} {t : Nat} (hM : ShT G z K N R t) {f : Nat → Int} (hV : TN I t f) (hO : Ok f) {rg : Int} (hrg : -2147483648 ≤ rg ∧ rg < 2147483648) : Cod l G yX4_takeOff (Cond.code yX4_takeOff cX4_takeOff 2 (some .int) :: wsL_law) ⟨5, 0, 0, 106⟩ [.ref t, .int (zI rg)] z K N I R (some (.int (zI (if 0 ≤ rg ∧ rg ≤ f 3 - 1 then (if f 4 / 2 ^ rg.toNat % 2 = 1 then prsA (movV f rg.toNat) ((movV f rg.toNat) 4) else -5) else -1)))) (if (0 ≤ rg ∧ rg ≤ f 3 - 1) ∧ f 4 / 2 ^ rg.toNat % 2 = 1 then haI (u2 I t 4 (flipb (f 4) rg.toNat)) t (prsA (movV f rg.toNat) ((movV f rg.toNat) 4)) ((movV f rg.toNat) 5).toNat else I) R := by
  refine Con.of (own := RX4) (cc := cX4_takeOff) (maxL := 2) (ret := (some .int)) (by decide +kernel) rfl rfl (Nat.le_of_ble_eq_true rfl) (by decide) rfl ?_
  intro p e9 s mt args below meth c Q hin hQ C
  obtain ⟨ho, ⟨r0, r1, r2⟩, ⟨k1, k2, k3⟩, ⟨n1, n2, n3⟩, hg⟩ := id hM
  obtain ⟨⟨v0, v1, v2⟩, ⟨v3, v4, v5⟩, vr, vg⟩ := id hV
  obtain ⟨b0, b1, b2, b3, b4, b5, br, bg⟩ := id hO
  have b4b := Ok4 hO
  refine z_aload_n C dX4_takeOff_0 rfl ?_
  refine z_iload_n C dX4_takeOff_1 rfl ?_
  refine z_callVd C (ci := 4) rfl (by decide) (by first | assumption | exact hM.1) (mX4_hasRing l G hM hV hO hrg) (cwV 1 C.2.2.2.2.1 gv4_66 rfl rfl rfl hd_X4_hasRing ⟨Nat.le_of_ble_eq_true rfl, Nat.le_of_ble_eq_true rfl⟩) rfl rfl (Nat.le_of_ble_eq_true rfl) dX4_takeOff_2 ⟨Nat.zero_le _, Nat.zero_le _⟩ ?_
  rw [v3]
  refine z_if_ne C (tgt := 10) dX4_takeOff_5 (by decide) (by first | omega | exact b2i_r) (fun h5 => ?_) (fun h5 => ?_)
  · have hb := b2i_1.mp h5
    obtain ⟨n9, rfl⟩ := Int.eq_ofNat_of_zero_le (show 0 ≤ rg by omega)
    simp only [Int.toNat_natCast] at hQ
    refine z_aload_n C dX4_takeOff_10 rfl ?_
    refine z_iload_n C dX4_takeOff_11 rfl ?_
    refine z_callVd C (ci := 4) rfl (by decide) (by first | assumption | exact hM.1) (mX4_isStacked l G hM hV hO (by omega)) (cwV 1 C.2.2.2.2.1 gv4_70 rfl rfl rfl hd_X4_isStacked ⟨Nat.le_of_ble_eq_true rfl, Nat.le_of_ble_eq_true rfl⟩) rfl rfl (Nat.le_of_ble_eq_true rfl) dX4_takeOff_12 ⟨Nat.zero_le _, Nat.zero_le _⟩ ?_
    rw [v4]
    have h01 := bit01 (f 4 / 2 ^ (n9 : Int).toNat)
    refine z_if_ne C (tgt := 21) dX4_takeOff_15 (by decide) (by first | omega | exact b2i_r) (fun h15 => ?_) (fun h15 => ?_)
    · have h15b : ¬ f 4 / 2 ^ n9 % 2 = 0 := h15
      have h01b := bit01 (f 4 / 2 ^ n9)
      have hz9 : f 4 / 2 ^ n9 % 2 = 1 := by omega
      refine z_aload_n C dX4_takeOff_21 rfl ?_
      refine z_dup C dX4_takeOff_22 rfl ?_
      refine z_gI C (ci := 4) (k := 4) rfl (by decide) rfl (by decide) wl_4 wq_5_4 rfl dX4_takeOff_23 (by assumption) ?_
      rw [v4]
      refine z_iconst C dX4_takeOff_26 ?_
      refine z_iload_n C dX4_takeOff_27 rfl ?_
      refine z_ishl C dX4_takeOff_28 (zI_shl (by omega)) ?_
      refine z_iconst C dX4_takeOff_29 ?_
      refine z_ixor C dX4_takeOff_30 rfl ?_
      refine z_iand C dX4_takeOff_31 (zI_clrb (by omega) _) ?_
      refine z_pI C (ci := 4) (k := 4) rfl (by decide) rfl (by decide) tyX4_ok nmX4 wl_4 wq_5_4 rfl (Or.inl rfl) dX4_takeOff_32 (by assumption) ?_
      rw [show clrb (f 4) (n9 : Int).toNat = flipb (f 4) n9 from clrb_flip hz9]
      refine z_aload_n C dX4_takeOff_35 rfl ?_
      refine z_callVd C (ci := 4) rfl (by decide) (by first | assumption | exact hM.1) (mX4_moveHands l G hM (hV.mov n9) (hO.h_movV (by omega))) (cwV 0 C.2.2.2.2.1 gv4_62 rfl rfl rfl hd_X4_moveHands ⟨Nat.le_of_ble_eq_true rfl, Nat.le_of_ble_eq_true rfl⟩) rfl rfl (Nat.le_of_ble_eq_true rfl) dX4_takeOff_36 ⟨Nat.zero_le _, Nat.zero_le _⟩ ?_
      exact z_iret2 C hQ rfl dX4_takeOff_39 ⟨zr (by first | (rw [if_pos hb, if_pos hz9]; done) | (rw [if_pos hb, if_neg hz9]; done) | rw [if_neg hb]), rfl, rfl, rfl, by first | (rw [if_pos ⟨hb, hz9⟩]; done) | rw [if_neg (fun z => hz9 z.2)] | rw [if_neg (fun z => hb z.1)], rfl⟩
    · have h15b : f 4 / 2 ^ n9 % 2 = 0 := h15
      have hz9 : ¬ f 4 / 2 ^ n9 % 2 = 1 := by omega
      refine z_bipush C dX4_takeOff_18 (by decide) ?_
      exact z_iret2 C hQ rfl dX4_takeOff_20 ⟨zr (by first | (rw [if_pos hb, if_pos hz9]; done) | (rw [if_pos hb, if_neg hz9]; done) | rw [if_neg hb]), rfl, rfl, rfl, by first | (rw [if_pos ⟨hb, hz9⟩]; done) | rw [if_neg (fun z => hz9 z.2)] | rw [if_neg (fun z => hb z.1)], rfl⟩
  · have hb := b2i_0.mp h5
    refine z_iconst C dX4_takeOff_8 ?_
    exact z_iret2 C hQ rfl dX4_takeOff_9 ⟨zr (by first | (rw [if_pos hb, if_pos hz9]; done) | (rw [if_pos hb, if_neg hz9]; done) | rw [if_neg hb]), rfl, rfl, rfl, by first | (rw [if_pos ⟨hb, hz9⟩]; done) | rw [if_neg (fun z => hz9 z.2)] | rw [if_neg (fun z => hb z.1)], rfl⟩

