section ZW
variable {p : Program} {l : Launch} {e : Env} {Rm : Room} {s : State} {m : MethodId} {args : Array Value} {below : List Frame} {meth : Method} {c : Code} {G : GG} {cc : ByteArray} {nL : Nat} {own : String} {ret : Option FieldType}
variable {Q : State → Prop} {cells slots z : Nat} {K N : Nat → Nat} {I : MI} {R : MR} {pc : Nat} {lv : List (Nat × Value)} {st : List Value}
theorem z_iaddW (C : Cx p l e Rm s m args below meth c G cc nL own ret) {x y : Int32} (d : decode cc pc = .ok (.iadd, 1)) (k : Zq p l e Rm s m args below meth c G nL Q cells slots z K N I R (pc + 1) lv (.int (x + y) :: st)) : Zq p l e Rm s m args below meth c G nL Q cells slots z K N I R pc lv (.int y :: .int x :: st) := fun H locs ls hW hL hl hd =>
  lv_iadd C.1 C.2.1 d (k H locs ls hW hL hl hd)
theorem z_isubW (C : Cx p l e Rm s m args below meth c G cc nL own ret) {x y : Int32} (d : decode cc pc = .ok (.isub, 1)) (k : Zq p l e Rm s m args below meth c G nL Q cells slots z K N I R (pc + 1) lv (.int (x - y) :: st)) : Zq p l e Rm s m args below meth c G nL Q cells slots z K N I R pc lv (.int y :: .int x :: st) := fun H locs ls hW hL hl hd =>
  lv_isub C.1 C.2.1 d (k H locs ls hW hL hl hd)
theorem z_iandW (C : Cx p l e Rm s m args below meth c G cc nL own ret) {x y : Int32} (d : decode cc pc = .ok (.iand, 1)) (k : Zq p l e Rm s m args below meth c G nL Q cells slots z K N I R (pc + 1) lv (.int (x &&& y) :: st)) : Zq p l e Rm s m args below meth c G nL Q cells slots z K N I R pc lv (.int y :: .int x :: st) := fun H locs ls hW hL hl hd =>
  lv_iand C.1 C.2.1 d (k H locs ls hW hL hl hd)
theorem z_iushrW (C : Cx p l e Rm s m args below meth c G cc nL own ret) {x y : Int32} (d : decode cc pc = .ok (.iushr, 1)) (k : Zq p l e Rm s m args below meth c G nL Q cells slots z K N I R (pc + 1) lv (.int (sh32 x y) :: st)) : Zq p l e Rm s m args below meth c G nL Q cells slots z K N I R pc lv (.int y :: .int x :: st) := fun H locs ls hW hL hl hd =>
  lv_iushr C.1 C.2.1 d rfl (k H locs ls hW hL hl hd)
end ZW
set_option maxHeartbeats 4000000 in
set_option maxRecDepth 100000 in
theorem mJ6_bitCount_0f7a4 (l : Launch) (G : GG) {z : Nat} {K N : Nat → Nat} {I : MI} {R : MR} {v : Int} (hv : 0 ≤ v ∧ v < 16384) : Cod l G yJ6_bitCount_0f7a4 (Cond.code yJ6_bitCount_0f7a4 cJ6_bitCount_0f7a4 1 (some .int) :: wsL_law) ⟨0, 0, 0, 0⟩ [.int (zI v)] z K N I R (some (.int (zI (popS v 14)))) I R := by
  refine Con.of (own := RJ6) (cc := cJ6_bitCount_0f7a4) (maxL := 1) (ret := (some .int)) (by decide +kernel) rfl rfl (Nat.le_of_ble_eq_true rfl) (by decide) rfl ?_
  intro p e9 s mt args below meth c Q hin hQ C
  refine z_iload_n C dJ6_bitCount_0f7a4_0 rfl ?_
  refine z_iload_n C dJ6_bitCount_0f7a4_1 rfl ?_
  refine z_iconst C dJ6_bitCount_0f7a4_2 ?_
  refine z_iushrW C dJ6_bitCount_0f7a4_3 ?_
  refine z_ldcw C (n := 1431655765) dJ6_bitCount_0f7a4_4 wq_23_9 ?_
  refine z_iandW C dJ6_bitCount_0f7a4_7 ?_
  refine z_isubW C dJ6_bitCount_0f7a4_8 ?_
  refine z_istore_n C dJ6_bitCount_0f7a4_9 (by decide) rfl ?_
  refine z_iload_n C dJ6_bitCount_0f7a4_10 rfl ?_
  refine z_ldcw C (n := 858993459) dJ6_bitCount_0f7a4_11 wq_23_10 ?_
  refine z_iandW C dJ6_bitCount_0f7a4_14 ?_
  refine z_iload_n C dJ6_bitCount_0f7a4_15 rfl ?_
  refine z_iconst C dJ6_bitCount_0f7a4_16 ?_
  refine z_iushrW C dJ6_bitCount_0f7a4_17 ?_
  refine z_ldcw C (n := 858993459) dJ6_bitCount_0f7a4_18 wq_23_10 ?_
  refine z_iandW C dJ6_bitCount_0f7a4_21 ?_
  refine z_iaddW C dJ6_bitCount_0f7a4_22 ?_
  refine z_istore_n C dJ6_bitCount_0f7a4_23 (by decide) rfl ?_
  refine z_iload_n C dJ6_bitCount_0f7a4_24 rfl ?_
  refine z_iload_n C dJ6_bitCount_0f7a4_25 rfl ?_
  refine z_iconst C dJ6_bitCount_0f7a4_26 ?_
  refine z_iushrW C dJ6_bitCount_0f7a4_27 ?_
  refine z_iaddW C dJ6_bitCount_0f7a4_28 ?_
  refine z_ldcw C (n := 252645135) dJ6_bitCount_0f7a4_29 wq_23_11 ?_
  refine z_iandW C dJ6_bitCount_0f7a4_32 ?_
  refine z_istore_n C dJ6_bitCount_0f7a4_33 (by decide) rfl ?_
  refine z_iload_n C dJ6_bitCount_0f7a4_34 rfl ?_
  refine z_iload_n C dJ6_bitCount_0f7a4_35 rfl ?_
  refine z_bipush C dJ6_bitCount_0f7a4_36 (by decide) ?_
  refine z_iushrW C dJ6_bitCount_0f7a4_38 ?_
  refine z_iaddW C dJ6_bitCount_0f7a4_39 ?_
  refine z_istore_n C dJ6_bitCount_0f7a4_40 (by decide) rfl ?_
  refine z_iload_n C dJ6_bitCount_0f7a4_41 rfl ?_
  refine z_iload_n C dJ6_bitCount_0f7a4_42 rfl ?_
  refine z_bipush C dJ6_bitCount_0f7a4_43 (by decide) ?_
  refine z_iushrW C dJ6_bitCount_0f7a4_45 ?_
  refine z_iaddW C dJ6_bitCount_0f7a4_46 ?_
  refine z_istore_n C dJ6_bitCount_0f7a4_47 (by decide) rfl ?_
  refine z_iload_n C dJ6_bitCount_0f7a4_48 rfl ?_
  refine z_bipush C dJ6_bitCount_0f7a4_49 (by decide) ?_
  refine z_iandW C dJ6_bitCount_0f7a4_51 ?_
  refine z_top (y := .int (zI (popS v 14))) (congrArg Value.int (bc_all hv)) ?_
  exact z_iret2 C hQ rfl dJ6_bitCount_0f7a4_52 ⟨rfl, rfl, rfl, rfl, rfl, rfl⟩

