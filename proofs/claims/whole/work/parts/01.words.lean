-- ===== PART A: goes FIRST, ahead of the names: the tables' words, and 'selects' of the private methods out of them =====
/-- a private method of a class that the tables say can be made, by its rows of tables_1 -/
def lw_okq (q : MethodName × Nat) : Prop := (q.1.cls ≠ "java/lang/invoke/MethodHandle" ∧ q.1.cls ≠ "java/lang/invoke/VarHandle") ∧ Cond.instantiable q.1.cls q.2 ∈ tables_1 ∧ Cond.privateMethod q.1 ∈ tables_1 ∧ Cond.instanceMethod q.1 ∈ tables_1
theorem lw_p0 : lw_okq (⟨"GaugeColumns$Tester", "voidCertificates", "()V"⟩, 6) := ⟨⟨by decide +kernel, by decide +kernel⟩, List.mem_of_getElem? (i := 22) (by decide +kernel), List.mem_of_getElem? (i := 220) (by decide +kernel), List.mem_of_getElem? (i := 221) (by decide +kernel)⟩
theorem lw_p1 : lw_okq (⟨"GaugeColumns$Tester", "moveHands", "()I"⟩, 6) := ⟨⟨by decide +kernel, by decide +kernel⟩, List.mem_of_getElem? (i := 22) (by decide +kernel), List.mem_of_getElem? (i := 224) (by decide +kernel), List.mem_of_getElem? (i := 225) (by decide +kernel)⟩
theorem lw_p2 : lw_okq (⟨"GaugeColumns$Tester", "massToNext", "(I)I"⟩, 6) := ⟨⟨by decide +kernel, by decide +kernel⟩, List.mem_of_getElem? (i := 22) (by decide +kernel), List.mem_of_getElem? (i := 437) (by decide +kernel), List.mem_of_getElem? (i := 438) (by decide +kernel)⟩
theorem lw_p3 : lw_okq (⟨"GaugeColumns$Pad", "pass", "(I)Z"⟩, 5) := ⟨⟨by decide +kernel, by decide +kernel⟩, List.mem_of_getElem? (i := 151) (by decide +kernel), List.mem_of_getElem? (i := 496) (by decide +kernel), List.mem_of_getElem? (i := 497) (by decide +kernel)⟩
theorem lw_p4 : lw_okq (⟨"GaugeColumns$Pad", "signAt", "(I)I"⟩, 5) := ⟨⟨by decide +kernel, by decide +kernel⟩, List.mem_of_getElem? (i := 151) (by decide +kernel), List.mem_of_getElem? (i := 500) (by decide +kernel), List.mem_of_getElem? (i := 501) (by decide +kernel)⟩
theorem lw_p5 : lw_okq (⟨"GaugeColumns$Pad", "readNumber", "(I)Z"⟩, 5) := ⟨⟨by decide +kernel, by decide +kernel⟩, List.mem_of_getElem? (i := 151) (by decide +kernel), List.mem_of_getElem? (i := 504) (by decide +kernel), List.mem_of_getElem? (i := 505) (by decide +kernel)⟩
theorem lw_p6 : lw_okq (⟨"GaugeColumns$Pad", "readDigit", "()Z"⟩, 5) := ⟨⟨by decide +kernel, by decide +kernel⟩, List.mem_of_getElem? (i := 151) (by decide +kernel), List.mem_of_getElem? (i := 511) (by decide +kernel), List.mem_of_getElem? (i := 512) (by decide +kernel)⟩
theorem lw_p7 : lw_okq (⟨"GaugeColumns$Pad", "readValue", "()Z"⟩, 5) := ⟨⟨by decide +kernel, by decide +kernel⟩, List.mem_of_getElem? (i := 151) (by decide +kernel), List.mem_of_getElem? (i := 515) (by decide +kernel), List.mem_of_getElem? (i := 516) (by decide +kernel)⟩
theorem lw_p8 : lw_okq (⟨"GaugeColumns", "carryOutOrder", "()I"⟩, 5) := ⟨⟨by decide +kernel, by decide +kernel⟩, List.mem_of_getElem? (i := 14) (by decide +kernel), List.mem_of_getElem? (i := 525) (by decide +kernel), List.mem_of_getElem? (i := 526) (by decide +kernel)⟩
theorem lw_p9 : lw_okq (⟨"GaugeColumnsModel", "record", "()V"⟩, 16) := ⟨⟨by decide +kernel, by decide +kernel⟩, List.mem_of_getElem? (i := 546) (by decide +kernel), List.mem_of_getElem? (i := 611) (by decide +kernel), List.mem_of_getElem? (i := 612) (by decide +kernel)⟩
theorem lw_p10 : lw_okq (⟨"GaugeColumnsModel", "sets", "(II)I"⟩, 16) := ⟨⟨by decide +kernel, by decide +kernel⟩, List.mem_of_getElem? (i := 546) (by decide +kernel), List.mem_of_getElem? (i := 618) (by decide +kernel), List.mem_of_getElem? (i := 619) (by decide +kernel)⟩
theorem lw_p11 : lw_okq (⟨"GaugeColumnsModel", "voidsAll", "()V"⟩, 16) := ⟨⟨by decide +kernel, by decide +kernel⟩, List.mem_of_getElem? (i := 546) (by decide +kernel), List.mem_of_getElem? (i := 622) (by decide +kernel), List.mem_of_getElem? (i := 623) (by decide +kernel)⟩
theorem lw_p12 : lw_okq (⟨"GaugeColumnsModel", "voids", "(I)V"⟩, 16) := ⟨⟨by decide +kernel, by decide +kernel⟩, List.mem_of_getElem? (i := 546) (by decide +kernel), List.mem_of_getElem? (i := 626) (by decide +kernel), List.mem_of_getElem? (i := 627) (by decide +kernel)⟩
theorem lw_p13 : lw_okq (⟨"GaugeColumnsModel", "setPart", "(III)V"⟩, 16) := ⟨⟨by decide +kernel, by decide +kernel⟩, List.mem_of_getElem? (i := 546) (by decide +kernel), List.mem_of_getElem? (i := 630) (by decide +kernel), List.mem_of_getElem? (i := 631) (by decide +kernel)⟩
theorem lw_p14 : lw_okq (⟨"GaugeColumnsModel", "handsGo", "()V"⟩, 16) := ⟨⟨by decide +kernel, by decide +kernel⟩, List.mem_of_getElem? (i := 546) (by decide +kernel), List.mem_of_getElem? (i := 634) (by decide +kernel), List.mem_of_getElem? (i := 635) (by decide +kernel)⟩
theorem lw_p15 : lw_okq (⟨"GaugeColumnsModel", "handGoes", "(I)V"⟩, 16) := ⟨⟨by decide +kernel, by decide +kernel⟩, List.mem_of_getElem? (i := 546) (by decide +kernel), List.mem_of_getElem? (i := 638) (by decide +kernel), List.mem_of_getElem? (i := 639) (by decide +kernel)⟩
def lw_privs_1 : List (MethodName × Nat) := [(⟨"GaugeColumns$Tester", "voidCertificates", "()V"⟩, 6), (⟨"GaugeColumns$Tester", "moveHands", "()I"⟩, 6), (⟨"GaugeColumns$Tester", "massToNext", "(I)I"⟩, 6), (⟨"GaugeColumns$Pad", "pass", "(I)Z"⟩, 5), (⟨"GaugeColumns$Pad", "signAt", "(I)I"⟩, 5), (⟨"GaugeColumns$Pad", "readNumber", "(I)Z"⟩, 5), (⟨"GaugeColumns$Pad", "readDigit", "()Z"⟩, 5), (⟨"GaugeColumns$Pad", "readValue", "()Z"⟩, 5), (⟨"GaugeColumns", "carryOutOrder", "()I"⟩, 5), (⟨"GaugeColumnsModel", "record", "()V"⟩, 16), (⟨"GaugeColumnsModel", "sets", "(II)I"⟩, 16), (⟨"GaugeColumnsModel", "voidsAll", "()V"⟩, 16), (⟨"GaugeColumnsModel", "voids", "(I)V"⟩, 16), (⟨"GaugeColumnsModel", "setPart", "(III)V"⟩, 16), (⟨"GaugeColumnsModel", "handsGo", "()V"⟩, 16), (⟨"GaugeColumnsModel", "handGoes", "(I)V"⟩, 16)]
theorem lw_r1 : ∀ q ∈ lw_privs_1, lw_okq q := List.forall_mem_cons.mpr ⟨lw_p0, List.forall_mem_cons.mpr ⟨lw_p1, List.forall_mem_cons.mpr ⟨lw_p2, List.forall_mem_cons.mpr ⟨lw_p3, List.forall_mem_cons.mpr ⟨lw_p4, List.forall_mem_cons.mpr ⟨lw_p5, List.forall_mem_cons.mpr ⟨lw_p6, List.forall_mem_cons.mpr ⟨lw_p7, List.forall_mem_cons.mpr ⟨lw_p8, List.forall_mem_cons.mpr ⟨lw_p9, List.forall_mem_cons.mpr ⟨lw_p10, List.forall_mem_cons.mpr ⟨lw_p11, List.forall_mem_cons.mpr ⟨lw_p12, List.forall_mem_cons.mpr ⟨lw_p13, List.forall_mem_cons.mpr ⟨lw_p14, List.forall_mem_cons.mpr ⟨lw_p15, fun _ h => absurd h List.not_mem_nil⟩⟩⟩⟩⟩⟩⟩⟩⟩⟩⟩⟩⟩⟩⟩⟩
theorem lw_p16 : lw_okq (⟨"GaugeColumnsModel", "part", "(II)I"⟩, 16) := ⟨⟨by decide +kernel, by decide +kernel⟩, List.mem_of_getElem? (i := 546) (by decide +kernel), List.mem_of_getElem? (i := 642) (by decide +kernel), List.mem_of_getElem? (i := 643) (by decide +kernel)⟩
theorem lw_p17 : lw_okq (⟨"GaugeColumnsModel", "pressureOf", "(I)I"⟩, 16) := ⟨⟨by decide +kernel, by decide +kernel⟩, List.mem_of_getElem? (i := 546) (by decide +kernel), List.mem_of_getElem? (i := 646) (by decide +kernel), List.mem_of_getElem? (i := 647) (by decide +kernel)⟩
theorem lw_p18 : lw_okq (⟨"GaugeColumnsModel", "massOf", "(I)I"⟩, 16) := ⟨⟨by decide +kernel, by decide +kernel⟩, List.mem_of_getElem? (i := 546) (by decide +kernel), List.mem_of_getElem? (i := 650) (by decide +kernel), List.mem_of_getElem? (i := 651) (by decide +kernel)⟩
theorem lw_p19 : lw_okq (⟨"GaugeColumnsModel", "pressureBy", "(II)I"⟩, 16) := ⟨⟨by decide +kernel, by decide +kernel⟩, List.mem_of_getElem? (i := 546) (by decide +kernel), List.mem_of_getElem? (i := 654) (by decide +kernel), List.mem_of_getElem? (i := 655) (by decide +kernel)⟩
theorem lw_p20 : lw_okq (⟨"GaugeColumnsModel", "weightOf", "(II)I"⟩, 16) := ⟨⟨by decide +kernel, by decide +kernel⟩, List.mem_of_getElem? (i := 546) (by decide +kernel), List.mem_of_getElem? (i := 658) (by decide +kernel), List.mem_of_getElem? (i := 659) (by decide +kernel)⟩
theorem lw_p21 : lw_okq (⟨"GaugeColumnsModel", "whyNoRing", "(I)I"⟩, 16) := ⟨⟨by decide +kernel, by decide +kernel⟩, List.mem_of_getElem? (i := 546) (by decide +kernel), List.mem_of_getElem? (i := 679) (by decide +kernel), List.mem_of_getElem? (i := 680) (by decide +kernel)⟩
theorem lw_p22 : lw_okq (⟨"GaugeColumnsModel", "comes", "(I)I"⟩, 16) := ⟨⟨by decide +kernel, by decide +kernel⟩, List.mem_of_getElem? (i := 546) (by decide +kernel), List.mem_of_getElem? (i := 683) (by decide +kernel), List.mem_of_getElem? (i := 684) (by decide +kernel)⟩
theorem lw_p23 : lw_okq (⟨"GaugeColumnsModel", "whyNotMoved", "(IZ)I"⟩, 16) := ⟨⟨by decide +kernel, by decide +kernel⟩, List.mem_of_getElem? (i := 546) (by decide +kernel), List.mem_of_getElem? (i := 695) (by decide +kernel), List.mem_of_getElem? (i := 696) (by decide +kernel)⟩
theorem lw_p24 : lw_okq (⟨"GaugeColumnsModel", "isRing", "(I)Z"⟩, 16) := ⟨⟨by decide +kernel, by decide +kernel⟩, List.mem_of_getElem? (i := 546) (by decide +kernel), List.mem_of_getElem? (i := 699) (by decide +kernel), List.mem_of_getElem? (i := 700) (by decide +kernel)⟩
theorem lw_p25 : lw_okq (⟨"GaugeColumnsModel", "isStacked", "(I)Z"⟩, 16) := ⟨⟨by decide +kernel, by decide +kernel⟩, List.mem_of_getElem? (i := 546) (by decide +kernel), List.mem_of_getElem? (i := 703) (by decide +kernel), List.mem_of_getElem? (i := 704) (by decide +kernel)⟩
theorem lw_p26 : lw_okq (⟨"GaugeColumnsModel", "isMoved", "(I)I"⟩, 16) := ⟨⟨by decide +kernel, by decide +kernel⟩, List.mem_of_getElem? (i := 546) (by decide +kernel), List.mem_of_getElem? (i := 707) (by decide +kernel), List.mem_of_getElem? (i := 708) (by decide +kernel)⟩
theorem lw_p27 : lw_okq (⟨"GaugeColumnsModel", "whyNoGauge", "(III)I"⟩, 16) := ⟨⟨by decide +kernel, by decide +kernel⟩, List.mem_of_getElem? (i := 546) (by decide +kernel), List.mem_of_getElem? (i := 719) (by decide +kernel), List.mem_of_getElem? (i := 720) (by decide +kernel)⟩
theorem lw_p28 : lw_okq (⟨"GaugeColumnsModel", "comesGauge", "(III)I"⟩, 16) := ⟨⟨by decide +kernel, by decide +kernel⟩, List.mem_of_getElem? (i := 546) (by decide +kernel), List.mem_of_getElem? (i := 726) (by decide +kernel), List.mem_of_getElem? (i := 727) (by decide +kernel)⟩
theorem lw_p29 : lw_okq (⟨"GaugeColumnsModel", "isGauge", "(I)Z"⟩, 16) := ⟨⟨by decide +kernel, by decide +kernel⟩, List.mem_of_getElem? (i := 546) (by decide +kernel), List.mem_of_getElem? (i := 734) (by decide +kernel), List.mem_of_getElem? (i := 735) (by decide +kernel)⟩
theorem lw_p30 : lw_okq (⟨"GaugeColumnsModel", "whyNotCertified", "(I)I"⟩, 16) := ⟨⟨by decide +kernel, by decide +kernel⟩, List.mem_of_getElem? (i := 546) (by decide +kernel), List.mem_of_getElem? (i := 742) (by decide +kernel), List.mem_of_getElem? (i := 743) (by decide +kernel)⟩
theorem lw_p31 : lw_okq (⟨"GaugeColumnsModel", "certifies", "(I)I"⟩, 16) := ⟨⟨by decide +kernel, by decide +kernel⟩, List.mem_of_getElem? (i := 546) (by decide +kernel), List.mem_of_getElem? (i := 746) (by decide +kernel), List.mem_of_getElem? (i := 747) (by decide +kernel)⟩
def lw_privs_2 : List (MethodName × Nat) := [(⟨"GaugeColumnsModel", "part", "(II)I"⟩, 16), (⟨"GaugeColumnsModel", "pressureOf", "(I)I"⟩, 16), (⟨"GaugeColumnsModel", "massOf", "(I)I"⟩, 16), (⟨"GaugeColumnsModel", "pressureBy", "(II)I"⟩, 16), (⟨"GaugeColumnsModel", "weightOf", "(II)I"⟩, 16), (⟨"GaugeColumnsModel", "whyNoRing", "(I)I"⟩, 16), (⟨"GaugeColumnsModel", "comes", "(I)I"⟩, 16), (⟨"GaugeColumnsModel", "whyNotMoved", "(IZ)I"⟩, 16), (⟨"GaugeColumnsModel", "isRing", "(I)Z"⟩, 16), (⟨"GaugeColumnsModel", "isStacked", "(I)Z"⟩, 16), (⟨"GaugeColumnsModel", "isMoved", "(I)I"⟩, 16), (⟨"GaugeColumnsModel", "whyNoGauge", "(III)I"⟩, 16), (⟨"GaugeColumnsModel", "comesGauge", "(III)I"⟩, 16), (⟨"GaugeColumnsModel", "isGauge", "(I)Z"⟩, 16), (⟨"GaugeColumnsModel", "whyNotCertified", "(I)I"⟩, 16), (⟨"GaugeColumnsModel", "certifies", "(I)I"⟩, 16)]
theorem lw_r2 : ∀ q ∈ lw_privs_2, lw_okq q := List.forall_mem_cons.mpr ⟨lw_p16, List.forall_mem_cons.mpr ⟨lw_p17, List.forall_mem_cons.mpr ⟨lw_p18, List.forall_mem_cons.mpr ⟨lw_p19, List.forall_mem_cons.mpr ⟨lw_p20, List.forall_mem_cons.mpr ⟨lw_p21, List.forall_mem_cons.mpr ⟨lw_p22, List.forall_mem_cons.mpr ⟨lw_p23, List.forall_mem_cons.mpr ⟨lw_p24, List.forall_mem_cons.mpr ⟨lw_p25, List.forall_mem_cons.mpr ⟨lw_p26, List.forall_mem_cons.mpr ⟨lw_p27, List.forall_mem_cons.mpr ⟨lw_p28, List.forall_mem_cons.mpr ⟨lw_p29, List.forall_mem_cons.mpr ⟨lw_p30, List.forall_mem_cons.mpr ⟨lw_p31, fun _ h => absurd h List.not_mem_nil⟩⟩⟩⟩⟩⟩⟩⟩⟩⟩⟩⟩⟩⟩⟩⟩
theorem lw_p32 : lw_okq (⟨"GaugeColumnsModel", "tests", "(II)V"⟩, 16) := ⟨⟨by decide +kernel, by decide +kernel⟩, List.mem_of_getElem? (i := 546) (by decide +kernel), List.mem_of_getElem? (i := 750) (by decide +kernel), List.mem_of_getElem? (i := 751) (by decide +kernel)⟩
theorem lw_p33 : lw_okq (⟨"GaugeColumnsModel", "findOrder", "()V"⟩, 16) := ⟨⟨by decide +kernel, by decide +kernel⟩, List.mem_of_getElem? (i := 546) (by decide +kernel), List.mem_of_getElem? (i := 754) (by decide +kernel), List.mem_of_getElem? (i := 755) (by decide +kernel)⟩
theorem lw_p34 : lw_okq (⟨"GaugeColumnsModel", "placeOf", "(I)I"⟩, 16) := ⟨⟨by decide +kernel, by decide +kernel⟩, List.mem_of_getElem? (i := 546) (by decide +kernel), List.mem_of_getElem? (i := 765) (by decide +kernel), List.mem_of_getElem? (i := 766) (by decide +kernel)⟩
theorem lw_p35 : lw_okq (⟨"GaugeColumnsModel", "certificates", "()I"⟩, 16) := ⟨⟨by decide +kernel, by decide +kernel⟩, List.mem_of_getElem? (i := 546) (by decide +kernel), List.mem_of_getElem? (i := 781) (by decide +kernel), List.mem_of_getElem? (i := 782) (by decide +kernel)⟩
theorem lw_p36 : lw_okq (⟨"GaugeColumnsModel", "findFault", "()I"⟩, 16) := ⟨⟨by decide +kernel, by decide +kernel⟩, List.mem_of_getElem? (i := 546) (by decide +kernel), List.mem_of_getElem? (i := 821) (by decide +kernel), List.mem_of_getElem? (i := 822) (by decide +kernel)⟩
theorem lw_p37 : lw_okq (⟨"GaugeColumnsModel", "readsOrder", "()Z"⟩, 16) := ⟨⟨by decide +kernel, by decide +kernel⟩, List.mem_of_getElem? (i := 546) (by decide +kernel), List.mem_of_getElem? (i := 825) (by decide +kernel), List.mem_of_getElem? (i := 826) (by decide +kernel)⟩
theorem lw_p38 : lw_okq (⟨"GaugeColumnsModel", "character", "(I)I"⟩, 16) := ⟨⟨by decide +kernel, by decide +kernel⟩, List.mem_of_getElem? (i := 546) (by decide +kernel), List.mem_of_getElem? (i := 829) (by decide +kernel), List.mem_of_getElem? (i := 830) (by decide +kernel)⟩
theorem lw_p39 : lw_okq (⟨"GaugeColumnsModel", "takeNumber", "()I"⟩, 16) := ⟨⟨by decide +kernel, by decide +kernel⟩, List.mem_of_getElem? (i := 546) (by decide +kernel), List.mem_of_getElem? (i := 833) (by decide +kernel), List.mem_of_getElem? (i := 834) (by decide +kernel)⟩
theorem lw_p40 : lw_okq (⟨"GaugeColumnsModel", "takeDigit", "()I"⟩, 16) := ⟨⟨by decide +kernel, by decide +kernel⟩, List.mem_of_getElem? (i := 546) (by decide +kernel), List.mem_of_getElem? (i := 837) (by decide +kernel), List.mem_of_getElem? (i := 838) (by decide +kernel)⟩
theorem lw_p41 : lw_okq (⟨"GaugeColumnsModel", "readsGauge", "()Z"⟩, 16) := ⟨⟨by decide +kernel, by decide +kernel⟩, List.mem_of_getElem? (i := 546) (by decide +kernel), List.mem_of_getElem? (i := 841) (by decide +kernel), List.mem_of_getElem? (i := 842) (by decide +kernel)⟩
theorem lw_p42 : lw_okq (⟨"GaugeColumnsModel", "isNext", "(I)Z"⟩, 16) := ⟨⟨by decide +kernel, by decide +kernel⟩, List.mem_of_getElem? (i := 546) (by decide +kernel), List.mem_of_getElem? (i := 845) (by decide +kernel), List.mem_of_getElem? (i := 846) (by decide +kernel)⟩
theorem lw_p43 : lw_okq (⟨"GaugeColumnsModel", "whyNotDone", "()I"⟩, 16) := ⟨⟨by decide +kernel, by decide +kernel⟩, List.mem_of_getElem? (i := 546) (by decide +kernel), List.mem_of_getElem? (i := 853) (by decide +kernel), List.mem_of_getElem? (i := 854) (by decide +kernel)⟩
theorem lw_p44 : lw_okq (⟨"GaugeColumnsModel", "does", "()V"⟩, 16) := ⟨⟨by decide +kernel, by decide +kernel⟩, List.mem_of_getElem? (i := 546) (by decide +kernel), List.mem_of_getElem? (i := 857) (by decide +kernel), List.mem_of_getElem? (i := 858) (by decide +kernel)⟩
def lw_privs_3 : List (MethodName × Nat) := [(⟨"GaugeColumnsModel", "tests", "(II)V"⟩, 16), (⟨"GaugeColumnsModel", "findOrder", "()V"⟩, 16), (⟨"GaugeColumnsModel", "placeOf", "(I)I"⟩, 16), (⟨"GaugeColumnsModel", "certificates", "()I"⟩, 16), (⟨"GaugeColumnsModel", "findFault", "()I"⟩, 16), (⟨"GaugeColumnsModel", "readsOrder", "()Z"⟩, 16), (⟨"GaugeColumnsModel", "character", "(I)I"⟩, 16), (⟨"GaugeColumnsModel", "takeNumber", "()I"⟩, 16), (⟨"GaugeColumnsModel", "takeDigit", "()I"⟩, 16), (⟨"GaugeColumnsModel", "readsGauge", "()Z"⟩, 16), (⟨"GaugeColumnsModel", "isNext", "(I)Z"⟩, 16), (⟨"GaugeColumnsModel", "whyNotDone", "()I"⟩, 16), (⟨"GaugeColumnsModel", "does", "()V"⟩, 16)]
theorem lw_r3 : ∀ q ∈ lw_privs_3, lw_okq q := List.forall_mem_cons.mpr ⟨lw_p32, List.forall_mem_cons.mpr ⟨lw_p33, List.forall_mem_cons.mpr ⟨lw_p34, List.forall_mem_cons.mpr ⟨lw_p35, List.forall_mem_cons.mpr ⟨lw_p36, List.forall_mem_cons.mpr ⟨lw_p37, List.forall_mem_cons.mpr ⟨lw_p38, List.forall_mem_cons.mpr ⟨lw_p39, List.forall_mem_cons.mpr ⟨lw_p40, List.forall_mem_cons.mpr ⟨lw_p41, List.forall_mem_cons.mpr ⟨lw_p42, List.forall_mem_cons.mpr ⟨lw_p43, List.forall_mem_cons.mpr ⟨lw_p44, fun _ h => absurd h List.not_mem_nil⟩⟩⟩⟩⟩⟩⟩⟩⟩⟩⟩⟩⟩
def lw_privs : List (MethodName × Nat) := lw_privs_1 ++ (lw_privs_2 ++ (lw_privs_3))
def lw_tbl : List Cond := k2_sels lw_privs ++ tables_1
theorem lw_privs_ok : ∀ q ∈ lw_privs, lw_okq q := by
  show ∀ q ∈ lw_privs_1 ++ (lw_privs_2 ++ (lw_privs_3)), lw_okq q
  exact List.forall_mem_append.mpr ⟨lw_r1, List.forall_mem_append.mpr ⟨lw_r2, lw_r3⟩⟩
-- ===== end of PART A; then your names; then what follows =====
/-! ===== BEGIN words of one list among another's, by their places ===== -/
theorem goodIn_r {big : List Cond} (ws : List Cond) (ps : List Nat) (hp : ws = ps.filterMap (fun i => big[i]?)) (h : ws.all goodWord = true) : GoodIn big ws := by
  intro w hw
  have h1 := List.all_eq_true.mp h w hw
  rw [hp] at hw
  obtain ⟨i, -, hi⟩ := List.mem_filterMap.mp hw
  have hm : w ∈ big := by first | exact List.mem_of_getElem? hi | exact List.getElem?_mem hi
  exact ⟨hm, good_of_word h1⟩
theorem goodIn_app {big a b : List Cond} (ha : GoodIn big a) (hb : GoodIn big b) : GoodIn big (a ++ b) := fun w h => (List.mem_append.mp h).elim (ha w) (hb w)
theorem goodIn_ca {big a b : List Cond} {c : Cond} (ha : GoodIn big (c :: a)) (hb : GoodIn big b) : GoodIn big (c :: (a ++ b)) := fun w h => (List.mem_cons.mp h).elim (fun e => ha w (List.mem_cons.mpr (Or.inl e))) (fun h => (List.mem_append.mp h).elim (fun h => ha w (List.mem_cons.mpr (Or.inr h))) (hb w))
theorem goodIn_sub {big ws : List Cond} (hm : ∀ w ∈ ws, w ∈ big) (h : ws.all goodWord = true) : GoodIn big ws := fun w hw => ⟨hm w hw, good_of_word (List.all_eq_true.mp h w hw)⟩
/-! ===== END ===== -/

/-! ===== BEGIN printed: names, fields, word lists, decode rows ===== -/
def RX0 : String := "GaugeColumns$Certificate"
def TX0 : u_T := fun k => match k with
  | 0 => ("GaugeColumns$Certificate", "readings", "[I", true)
  | 1 => ("GaugeColumns$Certificate", "greatest", "I", true)
  | _ => ("GaugeColumns$Certificate", "air", "I", true)
def tyX0 : Nat → FieldType := fun k => match k with
  | 0 => .array .int
  | 1 => .int
  | _ => .int
abbrev wsX00 : List Cond := u_ws RX0 TX0 3
theorem nmX0 : ∀ a, a < 3 → ∀ b, b < 3 → a ≠ b → (TX0 a).2.1 ≠ (TX0 b).2.1 := by decide +kernel
theorem tyX0_ok : ∀ k, k < 3 → parseFieldDescriptor (TX0 k).2.2.1 = some (tyX0 k) := by decide +kernel
abbrev cX0_init : ByteArray := prog_2_method_1_code
def yX0_init : MethodName := ⟨RX0, "<init>", "(LGaugeColumns$Trial;I)V"⟩
def RX1 : String := "GaugeColumns$Gauge"
def TX1 : u_T := fun k => match k with
  | 0 => ("GaugeColumns$Gauge", "error", "I", false)
  | 1 => ("GaugeColumns$Gauge", "play", "I", false)
  | 2 => ("GaugeColumns$Gauge", "step", "I", false)
  | 3 => ("GaugeColumns$Gauge", "hand", "I", false)
  | _ => ("GaugeColumns$Gauge", "certificate", "LGaugeColumns$Certificate;", false)
def tyX1 : Nat → FieldType := fun k => match k with
  | 0 => .int
  | 1 => .int
  | 2 => .int
  | 3 => .int
  | _ => .object "GaugeColumns$Certificate"
abbrev wsX10 : List Cond := u_ws RX1 TX1 5
theorem nmX1 : ∀ a, a < 5 → ∀ b, b < 5 → a ≠ b → (TX1 a).2.1 ≠ (TX1 b).2.1 := by decide +kernel
theorem tyX1_ok : ∀ k, k < 5 → parseFieldDescriptor (TX1 k).2.2.1 = some (tyX1 k) := by decide +kernel
abbrev cX1_init : ByteArray := prog_3_method_1_code
def yX1_init : MethodName := ⟨RX1, "<init>", "()V"⟩
abbrev cX1_begin : ByteArray := prog_3_method_2_code
def yX1_begin : MethodName := ⟨RX1, "begin", "(III)V"⟩
abbrev cX1_copyFrom : ByteArray := prog_3_method_3_code
def yX1_copyFrom : MethodName := ⟨RX1, "copyFrom", "(LGaugeColumns$Gauge;)V"⟩
abbrev cX1_follow : ByteArray := prog_3_method_4_code
def yX1_follow : MethodName := ⟨RX1, "follow", "(I)V"⟩
abbrev cX1_shown : ByteArray := prog_3_method_5_code
def yX1_shown : MethodName := ⟨RX1, "shown", "()I"⟩
abbrev cX1_tell : ByteArray := prog_3_method_6_code
def yX1_tell : MethodName := ⟨RX1, "tell", "(I)I"⟩
def RX2 : String := "GaugeColumns$History"
def TX2 : u_T := fun k => match k with
  | 0 => ("GaugeColumns$History", "states", "[LGaugeColumns$Tester;", true)
  | 1 => ("GaugeColumns$History", "next", "I", false)
  | _ => ("GaugeColumns$History", "kept", "I", false)
def tyX2 : Nat → FieldType := fun k => match k with
  | 0 => .array (.object "GaugeColumns$Tester")
  | 1 => .int
  | _ => .int
abbrev wsX20 : List Cond := u_ws RX2 TX2 3
theorem nmX2 : ∀ a, a < 3 → ∀ b, b < 3 → a ≠ b → (TX2 a).2.1 ≠ (TX2 b).2.1 := by decide +kernel
theorem tyX2_ok : ∀ k, k < 3 → parseFieldDescriptor (TX2 k).2.2.1 = some (tyX2 k) := by decide +kernel
abbrev cX2_init : ByteArray := prog_4_method_1_code
def yX2_init : MethodName := ⟨RX2, "<init>", "()V"⟩
abbrev cX2_remember : ByteArray := prog_4_method_2_code
def yX2_remember : MethodName := ⟨RX2, "remember", "(LGaugeColumns$Tester;)V"⟩
abbrev cX2_settle : ByteArray := prog_4_method_3_code
def yX2_settle : MethodName := ⟨RX2, "settle", "(I)I"⟩
abbrev cX2_stepBack : ByteArray := prog_4_method_4_code
def yX2_stepBack : MethodName := ⟨RX2, "stepBack", "(LGaugeColumns$Tester;)I"⟩
def RX3 : String := "GaugeColumns$Pad"
def TX3 : u_T := fun k => match k with
  | 0 => ("GaugeColumns$Pad", "numbers", "[I", true)
  | 1 => ("GaugeColumns$Pad", "kind", "I", false)
  | 2 => ("GaugeColumns$Pad", "length", "I", false)
  | 3 => ("GaugeColumns$Pad", "signs", "[C", true)
  | _ => ("GaugeColumns$Pad", "cursor", "I", false)
def tyX3 : Nat → FieldType := fun k => match k with
  | 0 => .array .int
  | 1 => .int
  | 2 => .int
  | 3 => .array .char
  | _ => .int
abbrev wsX30 : List Cond := u_ws RX3 TX3 5
theorem nmX3 : ∀ a, a < 5 → ∀ b, b < 5 → a ≠ b → (TX3 a).2.1 ≠ (TX3 b).2.1 := by decide +kernel
theorem tyX3_ok : ∀ k, k < 5 → parseFieldDescriptor (TX3 k).2.2.1 = some (tyX3 k) := by decide +kernel
abbrev cX3_init : ByteArray := prog_5_method_1_code
def yX3_init : MethodName := ⟨RX3, "<init>", "()V"⟩
abbrev cX3_append : ByteArray := prog_5_method_2_code
def yX3_append : MethodName := ⟨RX3, "append", "(J)I"⟩
abbrev cX3_howMany : ByteArray := prog_5_method_3_code
def yX3_howMany : MethodName := ⟨RX3, "howMany", "(J)I"⟩
abbrev cX3_clear : ByteArray := prog_5_method_4_code
def yX3_clear : MethodName := ⟨RX3, "clear", "()I"⟩
abbrev cX3_findFault : ByteArray := prog_5_method_5_code
def yX3_findFault : MethodName := ⟨RX3, "findFault", "()I"⟩
abbrev cX3_rewind : ByteArray := prog_5_method_6_code
def yX3_rewind : MethodName := ⟨RX3, "rewind", "()V"⟩
abbrev cX3_nextOrder : ByteArray := prog_5_method_7_code
def yX3_nextOrder : MethodName := ⟨RX3, "nextOrder", "()Z"⟩
abbrev cX3_readValue : ByteArray := prog_5_method_8_code
def yX3_readValue : MethodName := ⟨RX3, "readValue", "()Z"⟩
abbrev cX3_readNumber : ByteArray := prog_5_method_9_code
def yX3_readNumber : MethodName := ⟨RX3, "readNumber", "(I)Z"⟩
abbrev cX3_readDigit : ByteArray := prog_5_method_10_code
def yX3_readDigit : MethodName := ⟨RX3, "readDigit", "()Z"⟩
abbrev cX3_pass : ByteArray := prog_5_method_11_code
def yX3_pass : MethodName := ⟨RX3, "pass", "(I)Z"⟩
abbrev cX3_signAt : ByteArray := prog_5_method_12_code
def yX3_signAt : MethodName := ⟨RX3, "signAt", "(I)I"⟩
abbrev cX3_isDigit : ByteArray := prog_5_method_13_code
def yX3_isDigit : MethodName := ⟨RX3, "isDigit", "(I)Z"⟩
def RX4 : String := "GaugeColumns$Tester"
def TX4 : u_T := fun k => match k with
  | 0 => ("GaugeColumns$Tester", "settings", "[I", true)
  | 1 => ("GaugeColumns$Tester", "grams", "[I", true)
  | 2 => ("GaugeColumns$Tester", "gauges", "[LGaugeColumns$Gauge;", true)
  | 3 => ("GaugeColumns$Tester", "ringCount", "I", false)
  | 4 => ("GaugeColumns$Tester", "column", "I", false)
  | _ => ("GaugeColumns$Tester", "gaugeCount", "I", false)
def tyX4 : Nat → FieldType := fun k => match k with
  | 0 => .array .int
  | 1 => .array .int
  | 2 => .array (.object "GaugeColumns$Gauge")
  | 3 => .int
  | 4 => .int
  | _ => .int
abbrev wsX40 : List Cond := u_ws RX4 TX4 6
theorem nmX4 : ∀ a, a < 6 → ∀ b, b < 6 → a ≠ b → (TX4 a).2.1 ≠ (TX4 b).2.1 := by decide +kernel
theorem tyX4_ok : ∀ k, k < 6 → parseFieldDescriptor (TX4 k).2.2.1 = some (tyX4 k) := by decide +kernel
abbrev cX4_init : ByteArray := prog_6_method_1_code
def yX4_init : MethodName := ⟨RX4, "<init>", "()V"⟩
abbrev cX4_copyFrom : ByteArray := prog_6_method_2_code
def yX4_copyFrom : MethodName := ⟨RX4, "copyFrom", "(LGaugeColumns$Tester;)V"⟩
abbrev cX4_change : ByteArray := prog_6_method_3_code
def yX4_change : MethodName := ⟨RX4, "change", "(II)I"⟩
abbrev cX4_addRing : ByteArray := prog_6_method_4_code
def yX4_addRing : MethodName := ⟨RX4, "addRing", "(I)I"⟩
abbrev cX4_dropRing : ByteArray := prog_6_method_5_code
def yX4_dropRing : MethodName := ⟨RX4, "dropRing", "()I"⟩
abbrev cX4_putOn : ByteArray := prog_6_method_6_code
def yX4_putOn : MethodName := ⟨RX4, "putOn", "(I)I"⟩
abbrev cX4_takeOff : ByteArray := prog_6_method_7_code
def yX4_takeOff : MethodName := ⟨RX4, "takeOff", "(I)I"⟩
abbrev cX4_addGauge : ByteArray := prog_6_method_8_code
def yX4_addGauge : MethodName := ⟨RX4, "addGauge", "(III)I"⟩
abbrev cX4_adjust : ByteArray := prog_6_method_9_code
def yX4_adjust : MethodName := ⟨RX4, "adjust", "(II)I"⟩
abbrev cX4_certifyBy : ByteArray := prog_6_method_10_code
def yX4_certifyBy : MethodName := ⟨RX4, "certifyBy", "(LGaugeColumns$Trial;I)I"⟩
abbrev cX4_hasRing : ByteArray := prog_6_method_11_code
def yX4_hasRing : MethodName := ⟨RX4, "hasRing", "(I)Z"⟩
abbrev cX4_isStacked : ByteArray := prog_6_method_12_code
def yX4_isStacked : MethodName := ⟨RX4, "isStacked", "(I)Z"⟩
abbrev cX4_placeOf : ByteArray := prog_6_method_13_code
def yX4_placeOf : MethodName := ⟨RX4, "placeOf", "(I)I"⟩
abbrev cX4_gaugeAt : ByteArray := prog_6_method_14_code
def yX4_gaugeAt : MethodName := ⟨RX4, "gaugeAt", "(I)LGaugeColumns$Gauge;"⟩
abbrev cX4_countCertificates : ByteArray := prog_6_method_15_code
def yX4_countCertificates : MethodName := ⟨RX4, "countCertificates", "()I"⟩
abbrev cX4_massOf : ByteArray := prog_6_method_16_code
def yX4_massOf : MethodName := ⟨RX4, "massOf", "(I)I"⟩
abbrev cX4_pressureOf : ByteArray := prog_6_method_17_code
def yX4_pressureOf : MethodName := ⟨RX4, "pressureOf", "(II)I"⟩
abbrev cX4_columnPressure : ByteArray := prog_6_method_18_code
def yX4_columnPressure : MethodName := ⟨RX4, "columnPressure", "()I"⟩
abbrev cX4_nearestTo : ByteArray := prog_6_method_19_code
def yX4_nearestTo : MethodName := ⟨RX4, "nearestTo", "(I)I"⟩
abbrev cX4_massToNext : ByteArray := prog_6_method_20_code
def yX4_massToNext : MethodName := ⟨RX4, "massToNext", "(I)I"⟩
abbrev cX4_moveHands : ByteArray := prog_6_method_21_code
def yX4_moveHands : MethodName := ⟨RX4, "moveHands", "()I"⟩
abbrev cX4_voidCertificates : ByteArray := prog_6_method_22_code
def yX4_voidCertificates : MethodName := ⟨RX4, "voidCertificates", "()V"⟩
def RX5 : String := "GaugeColumns$Trial"
def TX5 : u_T := fun k => match k with
  | 0 => ("GaugeColumns$Trial", "readings", "[I", true)
  | 1 => ("GaugeColumns$Trial", "length", "I", false)
  | 2 => ("GaugeColumns$Trial", "greatest", "I", false)
  | 3 => ("GaugeColumns$Trial", "worst", "I", false)
  | 4 => ("GaugeColumns$Trial", "gauge", "LGaugeColumns$Gauge;", true)
  | 5 => ("GaugeColumns$Trial", "sorted", "[I", true)
  | _ => ("GaugeColumns$Trial", "pressures", "[I", true)
def tyX5 : Nat → FieldType := fun k => match k with
  | 0 => .array .int
  | 1 => .int
  | 2 => .int
  | 3 => .int
  | 4 => .object "GaugeColumns$Gauge"
  | 5 => .array .int
  | _ => .array .int
abbrev wsX50 : List Cond := u_ws RX5 TX5 7
theorem nmX5 : ∀ a, a < 7 → ∀ b, b < 7 → a ≠ b → (TX5 a).2.1 ≠ (TX5 b).2.1 := by decide +kernel
theorem tyX5_ok : ∀ k, k < 7 → parseFieldDescriptor (TX5 k).2.2.1 = some (tyX5 k) := by decide +kernel
abbrev cX5_init : ByteArray := prog_7_method_1_code
def yX5_init : MethodName := ⟨RX5, "<init>", "()V"⟩
abbrev cX5_prepare : ByteArray := prog_7_method_2_code
def yX5_prepare : MethodName := ⟨RX5, "prepare", "(LGaugeColumns$Tester;)V"⟩
abbrev cX5_run : ByteArray := prog_7_method_3_code
def yX5_run : MethodName := ⟨RX5, "run", "(LGaugeColumns$Gauge;I)V"⟩
def RX6 : String := "GaugeColumns"
def TX6 : u_T := fun k => match k with
  | 0 => ("GaugeColumns", "now", "LGaugeColumns$Tester;", true)
  | 1 => ("GaugeColumns", "history", "LGaugeColumns$History;", true)
  | 2 => ("GaugeColumns", "slots", "[LGaugeColumns$Tester;", true)
  | 3 => ("GaugeColumns", "trial", "LGaugeColumns$Trial;", true)
  | _ => ("GaugeColumns", "pad", "LGaugeColumns$Pad;", true)
def tyX6 : Nat → FieldType := fun k => match k with
  | 0 => .object "GaugeColumns$Tester"
  | 1 => .object "GaugeColumns$History"
  | 2 => .array (.object "GaugeColumns$Tester")
  | 3 => .object "GaugeColumns$Trial"
  | _ => .object "GaugeColumns$Pad"
abbrev wsX60 : List Cond := u_ws RX6 TX6 5
theorem nmX6 : ∀ a, a < 5 → ∀ b, b < 5 → a ≠ b → (TX6 a).2.1 ≠ (TX6 b).2.1 := by decide +kernel
theorem tyX6_ok : ∀ k, k < 5 → parseFieldDescriptor (TX6 k).2.2.1 = some (tyX6 k) := by decide +kernel
abbrev cX6_init : ByteArray := prog_1_method_1_code
def yX6_init : MethodName := ⟨RX6, "<init>", "()V"⟩
abbrev cX6_set : ByteArray := prog_1_method_2_code
def yX6_set : MethodName := ⟨RX6, "set", "(II)I"⟩
abbrev cX6_ring : ByteArray := prog_1_method_3_code
def yX6_ring : MethodName := ⟨RX6, "ring", "(I)I"⟩
abbrev cX6_lose : ByteArray := prog_1_method_4_code
def yX6_lose : MethodName := ⟨RX6, "lose", "()I"⟩
abbrev cX6_stack : ByteArray := prog_1_method_5_code
def yX6_stack : MethodName := ⟨RX6, "stack", "(I)I"⟩
abbrev cX6_take : ByteArray := prog_1_method_6_code
def yX6_take : MethodName := ⟨RX6, "take", "(I)I"⟩
abbrev cX6_gauge : ByteArray := prog_1_method_7_code
def yX6_gauge : MethodName := ⟨RX6, "gauge", "(III)I"⟩
abbrev cX6_tune : ByteArray := prog_1_method_8_code
def yX6_tune : MethodName := ⟨RX6, "tune", "(II)I"⟩
abbrev cX6_certify : ByteArray := prog_1_method_9_code
def yX6_certify : MethodName := ⟨RX6, "certify", "(I)I"⟩
abbrev cX6_ofRing : ByteArray := prog_1_method_10_code
def yX6_ofRing : MethodName := ⟨RX6, "ofRing", "(II)I"⟩
abbrev cX6_ofGauge : ByteArray := prog_1_method_11_code
def yX6_ofGauge : MethodName := ⟨RX6, "ofGauge", "(II)I"⟩
abbrev cX6_reading : ByteArray := prog_1_method_12_code
def yX6_reading : MethodName := ⟨RX6, "reading", "(II)I"⟩
abbrev cX6_count : ByteArray := prog_1_method_13_code
def yX6_count : MethodName := ⟨RX6, "count", "(I)I"⟩
abbrev cX6_pressure : ByteArray := prog_1_method_14_code
def yX6_pressure : MethodName := ⟨RX6, "pressure", "(I)I"⟩
abbrev cX6_nearest : ByteArray := prog_1_method_15_code
def yX6_nearest : MethodName := ⟨RX6, "nearest", "(II)I"⟩
abbrev cX6_test : ByteArray := prog_1_method_16_code
def yX6_test : MethodName := ⟨RX6, "test", "(II)I"⟩
abbrev cX6_bestError : ByteArray := prog_1_method_17_code
def yX6_bestError : MethodName := ⟨RX6, "bestError", "(II)I"⟩
abbrev cX6_airCosts : ByteArray := prog_1_method_18_code
def yX6_airCosts : MethodName := ⟨RX6, "airCosts", "(I)I"⟩
abbrev cX6_put : ByteArray := prog_1_method_19_code
def yX6_put : MethodName := ⟨RX6, "put", "(J)I"⟩
abbrev cX6_wipe : ByteArray := prog_1_method_20_code
def yX6_wipe : MethodName := ⟨RX6, "wipe", "()I"⟩
abbrev cX6_fault : ByteArray := prog_1_method_21_code
def yX6_fault : MethodName := ⟨RX6, "fault", "()I"⟩
abbrev cX6_carryOut : ByteArray := prog_1_method_22_code
def yX6_carryOut : MethodName := ⟨RX6, "carryOut", "()I"⟩
abbrev cX6_carryOutOrder : ByteArray := prog_1_method_23_code
def yX6_carryOutOrder : MethodName := ⟨RX6, "carryOutOrder", "()I"⟩
abbrev cX6_undo : ByteArray := prog_1_method_24_code
def yX6_undo : MethodName := ⟨RX6, "undo", "()I"⟩
abbrev cX6_save : ByteArray := prog_1_method_25_code
def yX6_save : MethodName := ⟨RX6, "save", "(I)I"⟩
abbrev cX6_restore : ByteArray := prog_1_method_26_code
def yX6_restore : MethodName := ⟨RX6, "restore", "(I)I"⟩
abbrev cX6_dividedDown : ByteArray := prog_1_method_27_code
def yX6_dividedDown : MethodName := ⟨RX6, "dividedDown", "(II)I"⟩
abbrev cX6_dividedRounded : ByteArray := prog_1_method_28_code
def yX6_dividedRounded : MethodName := ⟨RX6, "dividedRounded", "(II)I"⟩
abbrev cX6_weightOf : ByteArray := prog_1_method_29_code
def yX6_weightOf : MethodName := ⟨RX6, "weightOf", "(II)I"⟩
def RX7 : String := "GaugeColumnsModel"
def TX7 : u_T := fun k => match k with
  | 0 => ("GaugeColumnsModel", "state", "[I", true)
  | 1 => ("GaugeColumnsModel", "history", "[I", true)
  | 2 => ("GaugeColumnsModel", "recorded", "I", false)
  | 3 => ("GaugeColumnsModel", "slots", "[I", true)
  | 4 => ("GaugeColumnsModel", "isSaved", "[I", true)
  | 5 => ("GaugeColumnsModel", "pad", "[I", true)
  | 6 => ("GaugeColumnsModel", "padLength", "I", false)
  | 7 => ("GaugeColumnsModel", "order", "[I", true)
  | 8 => ("GaugeColumnsModel", "readings", "[I", true)
  | 9 => ("GaugeColumnsModel", "greatest", "I", false)
  | 10 => ("GaugeColumnsModel", "placeOfGreatest", "I", false)
  | 11 => ("GaugeColumnsModel", "at", "I", false)
  | 12 => ("GaugeColumnsModel", "letter", "I", false)
  | 13 => ("GaugeColumnsModel", "first", "I", false)
  | 14 => ("GaugeColumnsModel", "second", "I", false)
  | _ => ("GaugeColumnsModel", "third", "I", false)
def tyX7 : Nat → FieldType := fun k => match k with
  | 0 => .array .int
  | 1 => .array .int
  | 2 => .int
  | 3 => .array .int
  | 4 => .array .int
  | 5 => .array .int
  | 6 => .int
  | 7 => .array .int
  | 8 => .array .int
  | 9 => .int
  | 10 => .int
  | 11 => .int
  | 12 => .int
  | 13 => .int
  | 14 => .int
  | _ => .int
abbrev wsX70 : List Cond := u_ws RX7 TX7 16
theorem nmX7 : ∀ a, a < 16 → ∀ b, b < 16 → a ≠ b → (TX7 a).2.1 ≠ (TX7 b).2.1 := by decide +kernel
theorem tyX7_ok : ∀ k, k < 16 → parseFieldDescriptor (TX7 k).2.2.1 = some (tyX7 k) := by decide +kernel
abbrev cX7_init : ByteArray := prog_9_method_1_code
def yX7_init : MethodName := ⟨RX7, "<init>", "()V"⟩
abbrev cX7_moves : ByteArray := prog_9_method_3_code
def yX7_moves : MethodName := ⟨RX7, "moves", "([II[II)V"⟩
abbrev cX7_within : ByteArray := prog_9_method_4_code
def yX7_within : MethodName := ⟨RX7, "within", "(III)Z"⟩
abbrev cX7_size : ByteArray := prog_9_method_5_code
def yX7_size : MethodName := ⟨RX7, "size", "(I)I"⟩
abbrev cX7_rounded : ByteArray := prog_9_method_6_code
def yX7_rounded : MethodName := ⟨RX7, "rounded", "(II)I"⟩
abbrev cX7_record : ByteArray := prog_9_method_7_code
def yX7_record : MethodName := ⟨RX7, "record", "()V"⟩
abbrev cX7_isRing : ByteArray := prog_9_method_8_code
def yX7_isRing : MethodName := ⟨RX7, "isRing", "(I)Z"⟩
abbrev cX7_isStacked : ByteArray := prog_9_method_9_code
def yX7_isStacked : MethodName := ⟨RX7, "isStacked", "(I)Z"⟩
abbrev cX7_massOf : ByteArray := prog_9_method_10_code
def yX7_massOf : MethodName := ⟨RX7, "massOf", "(I)I"⟩
abbrev cX7_weightOf : ByteArray := prog_9_method_11_code
def yX7_weightOf : MethodName := ⟨RX7, "weightOf", "(II)I"⟩
abbrev cX7_pressureBy : ByteArray := prog_9_method_12_code
def yX7_pressureBy : MethodName := ⟨RX7, "pressureBy", "(II)I"⟩
abbrev cX7_pressureOf : ByteArray := prog_9_method_13_code
def yX7_pressureOf : MethodName := ⟨RX7, "pressureOf", "(I)I"⟩
abbrev cX7_bits : ByteArray := prog_9_method_14_code
def yX7_bits : MethodName := ⟨RX7, "bits", "(I)I"⟩
abbrev cX7_findOrder : ByteArray := prog_9_method_15_code
def yX7_findOrder : MethodName := ⟨RX7, "findOrder", "()V"⟩
abbrev cX7_isGauge : ByteArray := prog_9_method_16_code
def yX7_isGauge : MethodName := ⟨RX7, "isGauge", "(I)Z"⟩
abbrev cX7_part : ByteArray := prog_9_method_17_code
def yX7_part : MethodName := ⟨RX7, "part", "(II)I"⟩
abbrev cX7_setPart : ByteArray := prog_9_method_18_code
def yX7_setPart : MethodName := ⟨RX7, "setPart", "(III)V"⟩
abbrev cX7_truth : ByteArray := prog_9_method_19_code
def yX7_truth : MethodName := ⟨RX7, "truth", "(II)I"⟩
abbrev cX7_goesTo : ByteArray := prog_9_method_20_code
def yX7_goesTo : MethodName := ⟨RX7, "goesTo", "(IIII)I"⟩
abbrev cX7_reads : ByteArray := prog_9_method_21_code
def yX7_reads : MethodName := ⟨RX7, "reads", "(II)I"⟩
abbrev cX7_handGoes : ByteArray := prog_9_method_22_code
def yX7_handGoes : MethodName := ⟨RX7, "handGoes", "(I)V"⟩
abbrev cX7_handsGo : ByteArray := prog_9_method_23_code
def yX7_handsGo : MethodName := ⟨RX7, "handsGo", "()V"⟩
abbrev cX7_voids : ByteArray := prog_9_method_24_code
def yX7_voids : MethodName := ⟨RX7, "voids", "(I)V"⟩
abbrev cX7_voidsAll : ByteArray := prog_9_method_25_code
def yX7_voidsAll : MethodName := ⟨RX7, "voidsAll", "()V"⟩
abbrev cX7_certificates : ByteArray := prog_9_method_26_code
def yX7_certificates : MethodName := ⟨RX7, "certificates", "()I"⟩
abbrev cX7_tests : ByteArray := prog_9_method_27_code
def yX7_tests : MethodName := ⟨RX7, "tests", "(II)V"⟩
abbrev cX7_isValue : ByteArray := prog_9_method_28_code
def yX7_isValue : MethodName := ⟨RX7, "isValue", "(II)Z"⟩
abbrev cX7_sets : ByteArray := prog_9_method_29_code
def yX7_sets : MethodName := ⟨RX7, "sets", "(II)I"⟩
abbrev cX7_set : ByteArray := prog_9_method_30_code
def yX7_set : MethodName := ⟨RX7, "set", "(II)I"⟩
abbrev cX7_whyNoRing : ByteArray := prog_9_method_31_code
def yX7_whyNoRing : MethodName := ⟨RX7, "whyNoRing", "(I)I"⟩
abbrev cX7_comes : ByteArray := prog_9_method_32_code
def yX7_comes : MethodName := ⟨RX7, "comes", "(I)I"⟩
abbrev cX7_ring : ByteArray := prog_9_method_33_code
def yX7_ring : MethodName := ⟨RX7, "ring", "(I)I"⟩
abbrev cX7_lose : ByteArray := prog_9_method_34_code
def yX7_lose : MethodName := ⟨RX7, "lose", "()I"⟩
abbrev cX7_whyNotMoved : ByteArray := prog_9_method_35_code
def yX7_whyNotMoved : MethodName := ⟨RX7, "whyNotMoved", "(IZ)I"⟩
abbrev cX7_isMoved : ByteArray := prog_9_method_36_code
def yX7_isMoved : MethodName := ⟨RX7, "isMoved", "(I)I"⟩
abbrev cX7_stack : ByteArray := prog_9_method_37_code
def yX7_stack : MethodName := ⟨RX7, "stack", "(I)I"⟩
abbrev cX7_take : ByteArray := prog_9_method_38_code
def yX7_take : MethodName := ⟨RX7, "take", "(I)I"⟩
abbrev cX7_isError : ByteArray := prog_9_method_39_code
def yX7_isError : MethodName := ⟨RX7, "isError", "(I)Z"⟩
abbrev cX7_whyNoGauge : ByteArray := prog_9_method_40_code
def yX7_whyNoGauge : MethodName := ⟨RX7, "whyNoGauge", "(III)I"⟩
abbrev cX7_comesGauge : ByteArray := prog_9_method_41_code
def yX7_comesGauge : MethodName := ⟨RX7, "comesGauge", "(III)I"⟩
abbrev cX7_gauge : ByteArray := prog_9_method_42_code
def yX7_gauge : MethodName := ⟨RX7, "gauge", "(III)I"⟩
abbrev cX7_tune : ByteArray := prog_9_method_43_code
def yX7_tune : MethodName := ⟨RX7, "tune", "(II)I"⟩
abbrev cX7_whyNotCertified : ByteArray := prog_9_method_44_code
def yX7_whyNotCertified : MethodName := ⟨RX7, "whyNotCertified", "(I)I"⟩
abbrev cX7_certifies : ByteArray := prog_9_method_45_code
def yX7_certifies : MethodName := ⟨RX7, "certifies", "(I)I"⟩
abbrev cX7_certify : ByteArray := prog_9_method_46_code
def yX7_certify : MethodName := ⟨RX7, "certify", "(I)I"⟩
abbrev cX7_placeOf : ByteArray := prog_9_method_47_code
def yX7_placeOf : MethodName := ⟨RX7, "placeOf", "(I)I"⟩
abbrev cX7_ofRing : ByteArray := prog_9_method_48_code
def yX7_ofRing : MethodName := ⟨RX7, "ofRing", "(II)I"⟩
abbrev cX7_ofGauge : ByteArray := prog_9_method_49_code
def yX7_ofGauge : MethodName := ⟨RX7, "ofGauge", "(II)I"⟩
abbrev cX7_reading : ByteArray := prog_9_method_50_code
def yX7_reading : MethodName := ⟨RX7, "reading", "(II)I"⟩
abbrev cX7_count : ByteArray := prog_9_method_51_code
def yX7_count : MethodName := ⟨RX7, "count", "(I)I"⟩
abbrev cX7_pressure : ByteArray := prog_9_method_52_code
def yX7_pressure : MethodName := ⟨RX7, "pressure", "(I)I"⟩
abbrev cX7_nearest : ByteArray := prog_9_method_53_code
def yX7_nearest : MethodName := ⟨RX7, "nearest", "(II)I"⟩
abbrev cX7_test : ByteArray := prog_9_method_54_code
def yX7_test : MethodName := ⟨RX7, "test", "(II)I"⟩
abbrev cX7_bestError : ByteArray := prog_9_method_55_code
def yX7_bestError : MethodName := ⟨RX7, "bestError", "(II)I"⟩
abbrev cX7_airCosts : ByteArray := prog_9_method_56_code
def yX7_airCosts : MethodName := ⟨RX7, "airCosts", "(I)I"⟩
abbrev cX7_put : ByteArray := prog_9_method_57_code
def yX7_put : MethodName := ⟨RX7, "put", "(J)I"⟩
abbrev cX7_wipe : ByteArray := prog_9_method_58_code
def yX7_wipe : MethodName := ⟨RX7, "wipe", "()I"⟩
abbrev cX7_character : ByteArray := prog_9_method_59_code
def yX7_character : MethodName := ⟨RX7, "character", "(I)I"⟩
abbrev cX7_isNext : ByteArray := prog_9_method_60_code
def yX7_isNext : MethodName := ⟨RX7, "isNext", "(I)Z"⟩
abbrev cX7_takeDigit : ByteArray := prog_9_method_61_code
def yX7_takeDigit : MethodName := ⟨RX7, "takeDigit", "()I"⟩
abbrev cX7_takeNumber : ByteArray := prog_9_method_62_code
def yX7_takeNumber : MethodName := ⟨RX7, "takeNumber", "()I"⟩
abbrev cX7_readsGauge : ByteArray := prog_9_method_63_code
def yX7_readsGauge : MethodName := ⟨RX7, "readsGauge", "()Z"⟩
abbrev cX7_readsOrder : ByteArray := prog_9_method_64_code
def yX7_readsOrder : MethodName := ⟨RX7, "readsOrder", "()Z"⟩
abbrev cX7_findFault : ByteArray := prog_9_method_65_code
def yX7_findFault : MethodName := ⟨RX7, "findFault", "()I"⟩
abbrev cX7_fault : ByteArray := prog_9_method_66_code
def yX7_fault : MethodName := ⟨RX7, "fault", "()I"⟩
abbrev cX7_whyNotDone : ByteArray := prog_9_method_67_code
def yX7_whyNotDone : MethodName := ⟨RX7, "whyNotDone", "()I"⟩
abbrev cX7_does : ByteArray := prog_9_method_68_code
def yX7_does : MethodName := ⟨RX7, "does", "()V"⟩
abbrev cX7_carryOut : ByteArray := prog_9_method_69_code
def yX7_carryOut : MethodName := ⟨RX7, "carryOut", "()I"⟩
abbrev cX7_undo : ByteArray := prog_9_method_70_code
def yX7_undo : MethodName := ⟨RX7, "undo", "()I"⟩
abbrev cX7_save : ByteArray := prog_9_method_71_code
def yX7_save : MethodName := ⟨RX7, "save", "(I)I"⟩
abbrev cX7_restore : ByteArray := prog_9_method_72_code
def yX7_restore : MethodName := ⟨RX7, "restore", "(I)I"⟩
def RJx8e188 : String := "java/lang/Cloneable"
def TJx8e188 : u_T := fun k => match k with
  | _ => ("", "", "", false)
def tyJx8e188 : Nat → FieldType := fun k => match k with
  | _ => .int
abbrev wsJx8e1880 : List Cond := u_ws RJx8e188 TJx8e188 0
theorem nmJx8e188 : ∀ a, a < 0 → ∀ b, b < 0 → a ≠ b → (TJx8e188 a).2.1 ≠ (TJx8e188 b).2.1 := by decide +kernel
theorem tyJx8e188_ok : ∀ k, k < 0 → parseFieldDescriptor (TJx8e188 k).2.2.1 = some (tyJx8e188 k) := by decide +kernel
def RJ6 : String := "java/lang/Integer"
def TJ6 : u_T := fun k => match k with
  | _ => ("", "", "", false)
def tyJ6 : Nat → FieldType := fun k => match k with
  | _ => .int
abbrev wsJ60 : List Cond := u_ws RJ6 TJ6 0
theorem nmJ6 : ∀ a, a < 0 → ∀ b, b < 0 → a ≠ b → (TJ6 a).2.1 ≠ (TJ6 b).2.1 := by decide +kernel
theorem tyJ6_ok : ∀ k, k < 0 → parseFieldDescriptor (TJ6 k).2.2.1 = some (tyJ6 k) := by decide +kernel
abbrev cJ6_bitCount_0f7a4 : ByteArray := prog_11_method_49_code
def yJ6_bitCount_0f7a4 : MethodName := ⟨RJ6, "bitCount", "(I)I"⟩
def RJ9 : String := "java/lang/Math"
def TJ9 : u_T := fun k => match k with
  | _ => ("", "", "", false)
def tyJ9 : Nat → FieldType := fun k => match k with
  | _ => .int
abbrev wsJ90 : List Cond := u_ws RJ9 TJ9 0
theorem nmJ9 : ∀ a, a < 0 → ∀ b, b < 0 → a ≠ b → (TJ9 a).2.1 ≠ (TJ9 b).2.1 := by decide +kernel
theorem tyJ9_ok : ∀ k, k < 0 → parseFieldDescriptor (TJ9 k).2.2.1 = some (tyJ9 k) := by decide +kernel
abbrev cJ9_abs_0f7a4 : ByteArray := prog_12_method_59_code
def yJ9_abs_0f7a4 : MethodName := ⟨RJ9, "abs", "(I)I"⟩
abbrev cJ9_min_7cf53 : ByteArray := prog_12_method_69_code
def yJ9_min_7cf53 : MethodName := ⟨RJ9, "min", "(II)I"⟩
def RJ10 : String := "java/lang/System"
def TJ10 : u_T := fun k => match k with
  | _ => ("", "", "", false)
def tyJ10 : Nat → FieldType := fun k => match k with
  | _ => .int
abbrev wsJ100 : List Cond := u_ws RJ10 TJ10 0
theorem nmJ10 : ∀ a, a < 0 → ∀ b, b < 0 → a ≠ b → (TJ10 a).2.1 ≠ (TJ10 b).2.1 := by decide +kernel
theorem tyJ10_ok : ∀ k, k < 0 → parseFieldDescriptor (TJ10 k).2.2.1 = some (tyJ10 k) := by decide +kernel
def RJ7 : String := "java/util/Arrays"
def TJ7 : u_T := fun k => match k with
  | _ => ("", "", "", false)
def tyJ7 : Nat → FieldType := fun k => match k with
  | _ => .int
abbrev wsJ70 : List Cond := u_ws RJ7 TJ7 0
theorem nmJ7 : ∀ a, a < 0 → ∀ b, b < 0 → a ≠ b → (TJ7 a).2.1 ≠ (TJ7 b).2.1 := by decide +kernel
theorem tyJ7_ok : ∀ k, k < 0 → parseFieldDescriptor (TJ7 k).2.2.1 = some (tyJ7 k) := by decide +kernel
abbrev cJ7_copyOf_59c91 : ByteArray := prog_14_method_123_code
def yJ7_copyOf_59c91 : MethodName := ⟨RJ7, "copyOf", "([II)[I"⟩
def RL : String := "GaugeColumnsLaw"
abbrev cL_law : ByteArray := code
def yL_law : MethodName := ⟨RL, "law", "([I)Z"⟩
def wsL_law_r1 : List Cond := [Cond.classLink RL 7 RX6, Cond.instantiable RX6 5, Cond.initialized RX6, Cond.classLink RL 10 RX7, Cond.instantiable RX7 16, Cond.initialized RX7, Cond.constantLong RL 85 (4294967295), Cond.methodLink RL 9 yX6_init, Cond.instanceMethod yX6_init, Cond.code yX6_init cX6_init 1 none, Cond.methodLink RX6 1 objectInit, Cond.instanceMethod objectInit, Cond.code objectInit ⟨#[0xb1]⟩ 1 none, Cond.classLink RX6 7 RX4, Cond.instantiable RX4 6, Cond.initialized RX4, Cond.fieldLink RX6 10 "GaugeColumns" "now" "LGaugeColumns$Tester;", Cond.classLink RX6 16 RX2, Cond.instantiable RX2 3, Cond.initialized RX2, Cond.fieldLink RX6 19 "GaugeColumns" "history" "LGaugeColumns$History;", Cond.fieldLink RX6 23 "GaugeColumns" "slots" "[LGaugeColumns$Tester;", Cond.classLink RX6 27 RX5, Cond.instantiable RX5 7]
def wsL_law_r2 : List Cond := [Cond.initialized RX5, Cond.fieldLink RX6 30 "GaugeColumns" "trial" "LGaugeColumns$Trial;", Cond.classLink RX6 34 RX3, Cond.instantiable RX3 5, Cond.initialized RX3, Cond.fieldLink RX6 37 "GaugeColumns" "pad" "LGaugeColumns$Pad;", Cond.methodLink RX6 9 yX4_init, Cond.instanceMethod yX4_init, Cond.code yX4_init cX4_init 2 none, Cond.methodLink RX4 3 objectInit, Cond.methodLink RX4 13 ⟨"[I", "clone", "()Ljava/lang/Object;"⟩, Cond.sameMethod "[I" "java/lang/Object" "clone" "()Ljava/lang/Object;", Cond.native ⟨"java/lang/Object", "clone", "()Ljava/lang/Object;"⟩, Cond.instanceMethod ⟨"java/lang/Object", "clone", "()Ljava/lang/Object;"⟩, Cond.selects "[I" ⟨"[I", "clone", "()Ljava/lang/Object;"⟩ ⟨"java/lang/Object", "clone", "()Ljava/lang/Object;"⟩, Cond.classLink RX4 14 "[I", Cond.fieldLink RX4 18 "GaugeColumns$Tester" "settings" "[I", Cond.arrayClass .int, Cond.fieldLink RX4 23 "GaugeColumns$Tester" "grams" "[I", Cond.classLink RX4 26 RX1, Cond.fieldLink RX4 28 "GaugeColumns$Tester" "gauges" "[LGaugeColumns$Gauge;", Cond.instantiable RX1 5, Cond.initialized RX1, Cond.instanceMethod yX1_init]
def wsL_law_r3 : List Cond := [Cond.code yX1_init cX1_init 1 none, Cond.methodLink RX1 3 objectInit, Cond.methodLink RX6 18 yX2_init, Cond.instanceMethod yX2_init, Cond.code yX2_init cX2_init 2 none, Cond.methodLink RX2 3 objectInit, Cond.classLink RX2 9 RX4, Cond.fieldLink RX2 11 "GaugeColumns$History" "states" "[LGaugeColumns$Tester;", Cond.methodLink RX2 17 yX4_init, Cond.instanceMethod yX5_init, Cond.code yX5_init cX5_init 1 none, Cond.methodLink RX5 3 objectInit, Cond.fieldLink RX5 9 "GaugeColumns$Trial" "readings" "[I", Cond.classLink RX5 15 RX1, Cond.fieldLink RX5 18 "GaugeColumns$Trial" "gauge" "LGaugeColumns$Gauge;", Cond.fieldLink RX5 22 "GaugeColumns$Trial" "sorted" "[I", Cond.fieldLink RX5 25 "GaugeColumns$Trial" "pressures" "[I", Cond.instanceMethod yX3_init, Cond.code yX3_init cX3_init 1 none, Cond.methodLink RX3 3 objectInit, Cond.fieldLink RX3 9 "GaugeColumns$Pad" "numbers" "[I", Cond.arrayClass .char, Cond.fieldLink RX3 15 "GaugeColumns$Pad" "signs" "[C", Cond.methodLink RL 12 yX7_init]
def wsL_law_r4 : List Cond := [Cond.instanceMethod yX7_init, Cond.code yX7_init cX7_init 1 none, Cond.methodLink RX7 1 objectInit, Cond.fieldLink RX7 7 "GaugeColumnsModel" "state" "[I", Cond.fieldLink RX7 13 "GaugeColumnsModel" "history" "[I", Cond.fieldLink RX7 16 "GaugeColumnsModel" "slots" "[I", Cond.fieldLink RX7 19 "GaugeColumnsModel" "isSaved" "[I", Cond.fieldLink RX7 22 "GaugeColumnsModel" "pad" "[I", Cond.fieldLink RX7 25 "GaugeColumnsModel" "order" "[I", Cond.fieldLink RX7 28 "GaugeColumnsModel" "readings" "[I", Cond.methodLink RL 13 yX6_set, Cond.instanceMethod yX6_set, Cond.selects RX6 yX6_set yX6_set, Cond.code yX6_set cX6_set 3 (some .int), Cond.methodLink RX6 41 yX2_remember, Cond.instanceMethod yX2_remember, Cond.selects RX2 yX2_remember yX2_remember, Cond.code yX2_remember cX2_remember 2 none, Cond.fieldLink RX2 18 "GaugeColumns$History" "next" "I", Cond.methodLink RX2 22 yX4_copyFrom, Cond.instanceMethod yX4_copyFrom, Cond.selects RX4 yX4_copyFrom yX4_copyFrom, Cond.code yX4_copyFrom cX4_copyFrom 3 none, Cond.methodLink RX4 33 arraycopyName]
def wsL_law_r5 : List Cond := [Cond.native arraycopyName, Cond.static arraycopyName, Cond.initialized "java/lang/System", Cond.fieldLink RX4 43 "GaugeColumns$Tester" "ringCount" "I", Cond.fieldLink RX4 47 "GaugeColumns$Tester" "column" "I", Cond.fieldLink RX4 50 "GaugeColumns$Tester" "gaugeCount" "I", Cond.methodLink RX4 39 yX1_copyFrom, Cond.instanceMethod yX1_copyFrom, Cond.selects RX1 yX1_copyFrom yX1_copyFrom, Cond.code yX1_copyFrom cX1_copyFrom 2 none, Cond.fieldLink RX1 9 "GaugeColumns$Gauge" "error" "I", Cond.fieldLink RX1 15 "GaugeColumns$Gauge" "play" "I", Cond.fieldLink RX1 18 "GaugeColumns$Gauge" "step" "I", Cond.fieldLink RX1 21 "GaugeColumns$Gauge" "hand" "I", Cond.fieldLink RX1 24 "GaugeColumns$Gauge" "certificate" "LGaugeColumns$Certificate;", Cond.methodLink RX6 45 yX4_change, Cond.instanceMethod yX4_change, Cond.selects RX4 yX4_change yX4_change, Cond.code yX4_change cX4_change 4 (some .int), Cond.methodLink RX4 59 yX4_voidCertificates, Cond.instanceMethod yX4_voidCertificates, Cond.selects RX4 yX4_voidCertificates yX4_voidCertificates, Cond.code yX4_voidCertificates cX4_voidCertificates 2 none, Cond.fieldLink RX4 91 "GaugeColumns$Gauge" "certificate" "LGaugeColumns$Certificate;"]
def wsL_law_r6 : List Cond := [Cond.methodLink RX4 62 yX4_moveHands, Cond.instanceMethod yX4_moveHands, Cond.selects RX4 yX4_moveHands yX4_moveHands, Cond.code yX4_moveHands cX4_moveHands 3 (some .int), Cond.methodLink RX4 77 yX4_columnPressure, Cond.instanceMethod yX4_columnPressure, Cond.selects RX4 yX4_columnPressure yX4_columnPressure, Cond.code yX4_columnPressure cX4_columnPressure 1 (some .int), Cond.methodLink RX4 120 yX4_massOf, Cond.instanceMethod yX4_massOf, Cond.selects RX4 yX4_massOf yX4_massOf, Cond.code yX4_massOf cX4_massOf 4 (some .int), Cond.methodLink RX4 124 yX4_pressureOf, Cond.instanceMethod yX4_pressureOf, Cond.selects RX4 yX4_pressureOf yX4_pressureOf, Cond.code yX4_pressureOf cX4_pressureOf 3 (some .int), Cond.static yX6_weightOf, Cond.code yX6_weightOf cX6_weightOf 2 (some .int), Cond.constant RX6 203 (100000), Cond.methodLink RX6 204 yX6_dividedRounded, Cond.static yX6_dividedRounded, Cond.code yX6_dividedRounded cX6_dividedRounded 2 (some .int), Cond.static yX6_dividedDown, Cond.code yX6_dividedDown cX6_dividedDown 2 (some .int)]
def wsL_law_r7 : List Cond := [Cond.methodLink RX4 80 yX1_follow, Cond.instanceMethod yX1_follow, Cond.selects RX1 yX1_follow yX1_follow, Cond.code yX1_follow cX1_follow 4 none, Cond.methodLink RX1 28 Lib.Math.abs.name, Cond.static Lib.Math.abs.name, Cond.initialized "java/lang/Math", Cond.code Lib.Math.abs.name Lib.Math.abs.code 1 (some .int), Cond.methodLink RX6 49 yX2_settle, Cond.instanceMethod yX2_settle, Cond.selects RX2 yX2_settle yX2_settle, Cond.code yX2_settle cX2_settle 2 (some .int), Cond.fieldLink RX2 26 "GaugeColumns$History" "kept" "I", Cond.methodLink RX2 29 Lib.Math.min.name, Cond.static Lib.Math.min.name, Cond.code Lib.Math.min.name Lib.Math.min.code 2 (some .int), Cond.methodLink RL 17 yX7_set, Cond.instanceMethod yX7_set, Cond.selects RX7 yX7_set yX7_set, Cond.code yX7_set cX7_set 3 (some .int), Cond.methodLink RX7 103 yX7_isValue, Cond.static yX7_isValue, Cond.code yX7_isValue cX7_isValue 2 (some .boolean), Cond.methodLink RX7 39 yX7_within]
def wsL_law_r8 : List Cond := [Cond.static yX7_within, Cond.code yX7_within cX7_within 3 (some .boolean), Cond.methodLink RX7 107 yX7_record, Cond.instanceMethod yX7_record, Cond.selects RX7 yX7_record yX7_record, Cond.code yX7_record cX7_record 2 none, Cond.fieldLink RX7 31 "GaugeColumnsModel" "recorded" "I", Cond.methodLink RX7 35 yX7_moves, Cond.static yX7_moves, Cond.code yX7_moves cX7_moves 5 none, Cond.methodLink RX7 110 yX7_sets, Cond.instanceMethod yX7_sets, Cond.selects RX7 yX7_sets yX7_sets, Cond.code yX7_sets cX7_sets 4 (some .int), Cond.methodLink RX7 97 yX7_voidsAll, Cond.instanceMethod yX7_voidsAll, Cond.selects RX7 yX7_voidsAll yX7_voidsAll, Cond.code yX7_voidsAll cX7_voidsAll 2 none, Cond.methodLink RX7 82 yX7_voids, Cond.instanceMethod yX7_voids, Cond.selects RX7 yX7_voids yX7_voids, Cond.code yX7_voids cX7_voids 3 none, Cond.methodLink RX7 74 yX7_setPart, Cond.instanceMethod yX7_setPart]
def wsL_law_r9 : List Cond := [Cond.selects RX7 yX7_setPart yX7_setPart, Cond.code yX7_setPart cX7_setPart 4 none, Cond.methodLink RX7 100 yX7_handsGo, Cond.instanceMethod yX7_handsGo, Cond.selects RX7 yX7_handsGo yX7_handsGo, Cond.code yX7_handsGo cX7_handsGo 2 none, Cond.methodLink RX7 78 yX7_handGoes, Cond.instanceMethod yX7_handGoes, Cond.selects RX7 yX7_handGoes yX7_handGoes, Cond.code yX7_handGoes cX7_handGoes 2 none, Cond.methodLink RX7 64 yX7_part, Cond.instanceMethod yX7_part, Cond.selects RX7 yX7_part yX7_part, Cond.code yX7_part cX7_part 3 (some .int), Cond.methodLink RX7 67 yX7_pressureOf, Cond.instanceMethod yX7_pressureOf, Cond.selects RX7 yX7_pressureOf yX7_pressureOf, Cond.code yX7_pressureOf cX7_pressureOf 2 (some .int), Cond.methodLink RX7 51 yX7_massOf, Cond.instanceMethod yX7_massOf, Cond.selects RX7 yX7_massOf yX7_massOf, Cond.code yX7_massOf cX7_massOf 4 (some .int), Cond.methodLink RX7 55 yX7_pressureBy, Cond.instanceMethod yX7_pressureBy]
def wsL_law_r10 : List Cond := [Cond.selects RX7 yX7_pressureBy yX7_pressureBy, Cond.code yX7_pressureBy cX7_pressureBy 3 (some .int), Cond.methodLink RX7 48 yX7_weightOf, Cond.instanceMethod yX7_weightOf, Cond.selects RX7 yX7_weightOf yX7_weightOf, Cond.code yX7_weightOf cX7_weightOf 3 (some .int), Cond.constant RX7 43 (100000), Cond.methodLink RX7 44 yX7_rounded, Cond.static yX7_rounded, Cond.code yX7_rounded cX7_rounded 2 (some .int), Cond.methodLink RX7 70 yX7_goesTo, Cond.static yX7_goesTo, Cond.code yX7_goesTo cX7_goesTo 5 (some .int), Cond.methodLink RX7 61 yX7_truth, Cond.static yX7_truth, Cond.code yX7_truth cX7_truth 3 (some .int), Cond.methodLink RX7 58 yX7_size, Cond.static yX7_size, Cond.code yX7_size cX7_size 1 (some .int), Cond.methodLink RL 18 yX6_ring, Cond.instanceMethod yX6_ring, Cond.selects RX6 yX6_ring yX6_ring, Cond.code yX6_ring cX6_ring 2 (some .int), Cond.methodLink RX6 53 yX4_addRing]
def wsL_law_r11 : List Cond := [Cond.instanceMethod yX4_addRing, Cond.selects RX4 yX4_addRing yX4_addRing, Cond.code yX4_addRing cX4_addRing 2 (some .int), Cond.methodLink RL 22 yX7_ring, Cond.instanceMethod yX7_ring, Cond.selects RX7 yX7_ring yX7_ring, Cond.code yX7_ring cX7_ring 3 (some .int), Cond.methodLink RX7 113 yX7_whyNoRing, Cond.instanceMethod yX7_whyNoRing, Cond.selects RX7 yX7_whyNoRing yX7_whyNoRing, Cond.code yX7_whyNoRing cX7_whyNoRing 2 (some .int), Cond.methodLink RX7 116 yX7_comes, Cond.instanceMethod yX7_comes, Cond.selects RX7 yX7_comes yX7_comes, Cond.code yX7_comes cX7_comes 2 (some .int), Cond.methodLink RL 23 yX6_lose, Cond.instanceMethod yX6_lose, Cond.selects RX6 yX6_lose yX6_lose, Cond.code yX6_lose cX6_lose 1 (some .int), Cond.methodLink RX6 56 yX4_dropRing, Cond.instanceMethod yX4_dropRing, Cond.selects RX4 yX4_dropRing yX4_dropRing, Cond.code yX4_dropRing cX4_dropRing 1 (some .int), Cond.methodLink RL 27 yX7_lose]
def wsL_law_r12 : List Cond := [Cond.instanceMethod yX7_lose, Cond.selects RX7 yX7_lose yX7_lose, Cond.code yX7_lose cX7_lose 3 (some .int), Cond.methodLink RL 28 yX6_stack, Cond.instanceMethod yX6_stack, Cond.selects RX6 yX6_stack yX6_stack, Cond.code yX6_stack cX6_stack 2 (some .int), Cond.methodLink RX6 60 yX4_putOn, Cond.instanceMethod yX4_putOn, Cond.selects RX4 yX4_putOn yX4_putOn, Cond.code yX4_putOn cX4_putOn 2 (some .int), Cond.methodLink RX4 66 yX4_hasRing, Cond.instanceMethod yX4_hasRing, Cond.selects RX4 yX4_hasRing yX4_hasRing, Cond.code yX4_hasRing cX4_hasRing 2 (some .boolean), Cond.methodLink RX4 70 yX4_isStacked, Cond.instanceMethod yX4_isStacked, Cond.selects RX4 yX4_isStacked yX4_isStacked, Cond.code yX4_isStacked cX4_isStacked 2 (some .boolean), Cond.methodLink RL 31 yX7_stack, Cond.instanceMethod yX7_stack, Cond.selects RX7 yX7_stack yX7_stack, Cond.code yX7_stack cX7_stack 3 (some .int), Cond.methodLink RX7 126 yX7_whyNotMoved]
def wsL_law_r13 : List Cond := [Cond.instanceMethod yX7_whyNotMoved, Cond.selects RX7 yX7_whyNotMoved yX7_whyNotMoved, Cond.code yX7_whyNotMoved cX7_whyNotMoved 3 (some .int), Cond.methodLink RX7 119 yX7_isRing, Cond.instanceMethod yX7_isRing, Cond.selects RX7 yX7_isRing yX7_isRing, Cond.code yX7_isRing cX7_isRing 2 (some .boolean), Cond.methodLink RX7 123 yX7_isStacked, Cond.instanceMethod yX7_isStacked, Cond.selects RX7 yX7_isStacked yX7_isStacked, Cond.code yX7_isStacked cX7_isStacked 2 (some .boolean), Cond.methodLink RX7 130 yX7_isMoved, Cond.instanceMethod yX7_isMoved, Cond.selects RX7 yX7_isMoved yX7_isMoved, Cond.code yX7_isMoved cX7_isMoved 2 (some .int), Cond.methodLink RL 32 yX6_take, Cond.instanceMethod yX6_take, Cond.selects RX6 yX6_take yX6_take, Cond.code yX6_take cX6_take 2 (some .int), Cond.methodLink RX6 63 yX4_takeOff, Cond.instanceMethod yX4_takeOff, Cond.selects RX4 yX4_takeOff yX4_takeOff, Cond.code yX4_takeOff cX4_takeOff 2 (some .int), Cond.methodLink RL 35 yX7_take]
def wsL_law_r14 : List Cond := [Cond.instanceMethod yX7_take, Cond.selects RX7 yX7_take yX7_take, Cond.code yX7_take cX7_take 3 (some .int), Cond.methodLink RL 36 yX6_gauge, Cond.instanceMethod yX6_gauge, Cond.selects RX6 yX6_gauge yX6_gauge, Cond.code yX6_gauge cX6_gauge 4 (some .int), Cond.methodLink RX6 66 yX4_addGauge, Cond.instanceMethod yX4_addGauge, Cond.selects RX4 yX4_addGauge yX4_addGauge, Cond.code yX4_addGauge cX4_addGauge 4 (some .int), Cond.methodLink RX4 73 yX1_begin, Cond.instanceMethod yX1_begin, Cond.selects RX1 yX1_begin yX1_begin, Cond.code yX1_begin cX1_begin 4 none, Cond.methodLink RL 40 yX7_gauge, Cond.instanceMethod yX7_gauge, Cond.selects RX7 yX7_gauge yX7_gauge, Cond.code yX7_gauge cX7_gauge 5 (some .int), Cond.methodLink RX7 136 yX7_whyNoGauge, Cond.instanceMethod yX7_whyNoGauge, Cond.selects RX7 yX7_whyNoGauge yX7_whyNoGauge, Cond.code yX7_whyNoGauge cX7_whyNoGauge 4 (some .int), Cond.methodLink RX7 133 yX7_isError]
def wsL_law_r15 : List Cond := [Cond.static yX7_isError, Cond.code yX7_isError cX7_isError 1 (some .boolean), Cond.methodLink RX7 140 yX7_comesGauge, Cond.instanceMethod yX7_comesGauge, Cond.selects RX7 yX7_comesGauge yX7_comesGauge, Cond.code yX7_comesGauge cX7_comesGauge 6 (some .int), Cond.methodLink RL 41 yX6_tune, Cond.instanceMethod yX6_tune, Cond.selects RX6 yX6_tune yX6_tune, Cond.code yX6_tune cX6_tune 3 (some .int), Cond.methodLink RX6 70 yX4_adjust, Cond.instanceMethod yX4_adjust, Cond.selects RX4 yX4_adjust yX4_adjust, Cond.code yX4_adjust cX4_adjust 5 (some .int), Cond.fieldLink RX4 88 "GaugeColumns$Gauge" "error" "I", Cond.methodLink RX4 84 yX4_gaugeAt, Cond.instanceMethod yX4_gaugeAt, Cond.selects RX4 yX4_gaugeAt yX4_gaugeAt, Cond.code yX4_gaugeAt cX4_gaugeAt 2 (some (.object "GaugeColumns$Gauge")), Cond.methodLink RL 44 yX7_tune, Cond.instanceMethod yX7_tune, Cond.selects RX7 yX7_tune yX7_tune, Cond.code yX7_tune cX7_tune 4 (some .int), Cond.methodLink RX7 143 yX7_isGauge]
def wsL_law_r16 : List Cond := [Cond.instanceMethod yX7_isGauge, Cond.selects RX7 yX7_isGauge yX7_isGauge, Cond.code yX7_isGauge cX7_isGauge 2 (some .boolean), Cond.methodLink RL 45 yX6_certify, Cond.instanceMethod yX6_certify, Cond.selects RX6 yX6_certify yX6_certify, Cond.code yX6_certify cX6_certify 2 (some .int), Cond.methodLink RX6 73 yX4_certifyBy, Cond.instanceMethod yX4_certifyBy, Cond.selects RX4 yX4_certifyBy yX4_certifyBy, Cond.code yX4_certifyBy cX4_certifyBy 4 (some .int), Cond.fieldLink RX4 105 "GaugeColumns$Trial" "greatest" "I", Cond.classLink RX4 108 RX0, Cond.instantiable RX0 3, Cond.initialized RX0, Cond.methodLink RX4 95 yX5_prepare, Cond.instanceMethod yX5_prepare, Cond.selects RX5 yX5_prepare yX5_prepare, Cond.code yX5_prepare cX5_prepare 5 none, Cond.fieldLink RX5 28 "GaugeColumns$Tester" "ringCount" "I", Cond.fieldLink RX5 38 "GaugeColumns$Tester" "grams" "[I", Cond.fieldLink RX5 41 "GaugeColumns$Tester" "settings" "[I", Cond.fieldLink RX5 48 "GaugeColumns$Trial" "length" "I", Cond.methodLink RX5 34 yX4_placeOf]
def wsL_law_r17 : List Cond := [Cond.instanceMethod yX4_placeOf, Cond.selects RX4 yX4_placeOf yX4_placeOf, Cond.code yX4_placeOf cX4_placeOf 4 (some .int), Cond.methodLink RX5 44 yX4_pressureOf, Cond.methodLink RX4 101 yX5_run, Cond.instanceMethod yX5_run, Cond.selects RX5 yX5_run yX5_run, Cond.code yX5_run cX5_run 6 none, Cond.fieldLink RX5 51 "GaugeColumns$Gauge" "play" "I", Cond.fieldLink RX5 54 "GaugeColumns$Gauge" "step" "I", Cond.fieldLink RX5 61 "GaugeColumns$Trial" "greatest" "I", Cond.fieldLink RX5 64 "GaugeColumns$Trial" "worst" "I", Cond.methodLink RX5 75 Lib.Math.abs.name, Cond.methodLink RX5 57 yX1_begin, Cond.methodLink RX5 67 yX1_follow, Cond.methodLink RX5 71 yX1_shown, Cond.instanceMethod yX1_shown, Cond.selects RX1 yX1_shown yX1_shown, Cond.code yX1_shown cX1_shown 1 (some .int), Cond.methodLink RX4 110 yX0_init, Cond.instanceMethod yX0_init, Cond.code yX0_init cX0_init 3 none, Cond.methodLink RX0 1 objectInit, Cond.fieldLink RX0 7 "GaugeColumns$Trial" "readings" "[I"]
def wsL_law_r18 : List Cond := [Cond.fieldLink RX0 13 "GaugeColumns$Trial" "length" "I", Cond.fieldLink RX0 23 "GaugeColumns$Certificate" "readings" "[I", Cond.fieldLink RX0 26 "GaugeColumns$Trial" "greatest" "I", Cond.fieldLink RX0 29 "GaugeColumns$Certificate" "greatest" "I", Cond.fieldLink RX0 30 "GaugeColumns$Certificate" "air" "I", Cond.methodLink RX0 17 yJ7_copyOf_59c91, Cond.static yJ7_copyOf_59c91, Cond.initialized RJ7, Cond.code yJ7_copyOf_59c91 cJ7_copyOf_59c91 3 (some (.array .int)), Cond.methodLink RJ7 316 ⟨"[I", "clone", "()Ljava/lang/Object;"⟩, Cond.classLink RJ7 317 "[I", Cond.methodLink RJ7 304 Lib.Math.min.name, Cond.methodLink RJ7 150 arraycopyName, Cond.methodLink RL 48 yX7_certify, Cond.instanceMethod yX7_certify, Cond.selects RX7 yX7_certify yX7_certify, Cond.code yX7_certify cX7_certify 3 (some .int), Cond.methodLink RX7 150 yX7_whyNotCertified, Cond.instanceMethod yX7_whyNotCertified, Cond.selects RX7 yX7_whyNotCertified yX7_whyNotCertified, Cond.code yX7_whyNotCertified cX7_whyNotCertified 2 (some .int), Cond.methodLink RX7 153 yX7_certifies, Cond.instanceMethod yX7_certifies, Cond.selects RX7 yX7_certifies yX7_certifies]
def wsL_law_r19 : List Cond := [Cond.code yX7_certifies cX7_certifies 3 (some .int), Cond.fieldLink RX7 85 "GaugeColumnsModel" "greatest" "I", Cond.methodLink RX7 146 yX7_tests, Cond.instanceMethod yX7_tests, Cond.selects RX7 yX7_tests yX7_tests, Cond.code yX7_tests cX7_tests 10 none, Cond.fieldLink RX7 88 "GaugeColumnsModel" "placeOfGreatest" "I", Cond.methodLink RX7 91 yX7_findOrder, Cond.instanceMethod yX7_findOrder, Cond.selects RX7 yX7_findOrder yX7_findOrder, Cond.code yX7_findOrder cX7_findOrder 3 none, Cond.methodLink RX7 94 yX7_reads, Cond.static yX7_reads, Cond.code yX7_reads cX7_reads 2 (some .int), Cond.methodLink RL 49 yX6_ofRing, Cond.instanceMethod yX6_ofRing, Cond.selects RX6 yX6_ofRing yX6_ofRing, Cond.code yX6_ofRing cX6_ofRing 3 (some .int), Cond.fieldLink RX6 81 "GaugeColumns$Tester" "grams" "[I", Cond.methodLink RX6 77 yX4_hasRing, Cond.methodLink RX6 85 yX4_isStacked, Cond.methodLink RX6 88 yX4_placeOf, Cond.methodLink RL 52 yX7_ofRing, Cond.instanceMethod yX7_ofRing]
def wsL_law_r20 : List Cond := [Cond.selects RX7 yX7_ofRing yX7_ofRing, Cond.code yX7_ofRing cX7_ofRing 3 (some .int), Cond.methodLink RX7 156 yX7_placeOf, Cond.instanceMethod yX7_placeOf, Cond.selects RX7 yX7_placeOf yX7_placeOf, Cond.code yX7_placeOf cX7_placeOf 4 (some .int), Cond.methodLink RL 53 yX6_ofGauge, Cond.instanceMethod yX6_ofGauge, Cond.selects RX6 yX6_ofGauge yX6_ofGauge, Cond.code yX6_ofGauge cX6_ofGauge 4 (some .int), Cond.methodLink RX6 91 yX4_gaugeAt, Cond.methodLink RX6 95 yX1_tell, Cond.instanceMethod yX1_tell, Cond.selects RX1 yX1_tell yX1_tell, Cond.code yX1_tell cX1_tell 2 (some .int), Cond.fieldLink RX1 45 "GaugeColumns$Certificate" "greatest" "I", Cond.fieldLink RX1 50 "GaugeColumns$Certificate" "air" "I", Cond.methodLink RX1 41 yX1_shown, Cond.methodLink RL 56 yX7_ofGauge, Cond.instanceMethod yX7_ofGauge, Cond.selects RX7 yX7_ofGauge yX7_ofGauge, Cond.code yX7_ofGauge cX7_ofGauge 4 (some .int), Cond.methodLink RL 57 yX6_reading, Cond.instanceMethod yX6_reading]
def wsL_law_r21 : List Cond := [Cond.selects RX6 yX6_reading yX6_reading, Cond.code yX6_reading cX6_reading 5 (some .int), Cond.fieldLink RX6 100 "GaugeColumns$Gauge" "certificate" "LGaugeColumns$Certificate;", Cond.fieldLink RX6 104 "GaugeColumns$Certificate" "readings" "[I", Cond.methodLink RL 60 yX7_reading, Cond.instanceMethod yX7_reading, Cond.selects RX7 yX7_reading yX7_reading, Cond.code yX7_reading cX7_reading 3 (some .int), Cond.methodLink RL 61 yX6_count, Cond.instanceMethod yX6_count, Cond.selects RX6 yX6_count yX6_count, Cond.code yX6_count cX6_count 2 (some .int), Cond.fieldLink RX6 109 "GaugeColumns$Tester" "ringCount" "I", Cond.fieldLink RX6 113 "GaugeColumns$Tester" "gaugeCount" "I", Cond.fieldLink RX6 116 "GaugeColumns$Tester" "column" "I", Cond.fieldLink RX6 122 "GaugeColumns$Tester" "settings" "[I", Cond.fieldLink RX6 134 "GaugeColumns$Pad" "length" "I", Cond.fieldLink RX6 137 "GaugeColumns$History" "kept" "I", Cond.methodLink RX6 119 yX4_massOf, Cond.methodLink RX6 125 yX6_weightOf, Cond.methodLink RX6 128 yX4_columnPressure, Cond.methodLink RX6 131 yX4_countCertificates, Cond.instanceMethod yX4_countCertificates, Cond.selects RX4 yX4_countCertificates yX4_countCertificates]
def wsL_law_r22 : List Cond := [Cond.code yX4_countCertificates cX4_countCertificates 3 (some .int), Cond.methodLink RL 64 yX7_count, Cond.instanceMethod yX7_count, Cond.selects RX7 yX7_count yX7_count, Cond.code yX7_count cX7_count 2 (some .int), Cond.fieldLink RX7 163 "GaugeColumnsModel" "padLength" "I", Cond.methodLink RX7 159 yX7_certificates, Cond.instanceMethod yX7_certificates, Cond.selects RX7 yX7_certificates yX7_certificates, Cond.code yX7_certificates cX7_certificates 3 (some .int), Cond.methodLink RL 65 yX6_pressure, Cond.instanceMethod yX6_pressure, Cond.selects RX6 yX6_pressure yX6_pressure, Cond.code yX6_pressure cX6_pressure 2 (some .int), Cond.methodLink RX6 140 yX4_pressureOf, Cond.methodLink RL 68 yX7_pressure, Cond.instanceMethod yX7_pressure, Cond.selects RX7 yX7_pressure yX7_pressure, Cond.code yX7_pressure cX7_pressure 2 (some .int), Cond.methodLink RL 69 yX6_nearest, Cond.instanceMethod yX6_nearest, Cond.selects RX6 yX6_nearest yX6_nearest, Cond.code yX6_nearest cX6_nearest 4 (some .int), Cond.methodLink RX6 143 yX4_nearestTo]
def wsL_law_r23 : List Cond := [Cond.instanceMethod yX4_nearestTo, Cond.selects RX4 yX4_nearestTo yX4_nearestTo, Cond.code yX4_nearestTo cX4_nearestTo 7 (some .int), Cond.constant RX4 127 (2147483647), Cond.methodLink RX4 128 Lib.Math.abs.name, Cond.methodLink RX4 133 yJ6_bitCount_0f7a4, Cond.static yJ6_bitCount_0f7a4, Cond.initialized RJ6, Cond.code yJ6_bitCount_0f7a4 cJ6_bitCount_0f7a4 1 (some .int), Cond.constant RJ6 265 (1431655765), Cond.constant RJ6 266 (858993459), Cond.constant RJ6 267 (252645135), Cond.methodLink RX4 138 yX4_massToNext, Cond.instanceMethod yX4_massToNext, Cond.selects RX4 yX4_massToNext yX4_massToNext, Cond.code yX4_massToNext cX4_massToNext 4 (some .int), Cond.methodLink RL 72 yX7_nearest, Cond.instanceMethod yX7_nearest, Cond.selects RX7 yX7_nearest yX7_nearest, Cond.code yX7_nearest cX7_nearest 7 (some .int), Cond.methodLink RX7 166 yX7_bits, Cond.static yX7_bits, Cond.code yX7_bits cX7_bits 3 (some .int), Cond.methodLink RL 73 yX6_test]
def wsL_law_r24 : List Cond := [Cond.instanceMethod yX6_test, Cond.selects RX6 yX6_test yX6_test, Cond.code yX6_test cX6_test 4 (some .int), Cond.fieldLink RX6 149 "GaugeColumns$Gauge" "error" "I", Cond.fieldLink RX6 156 "GaugeColumns$Trial" "greatest" "I", Cond.fieldLink RX6 159 "GaugeColumns$Trial" "worst" "I", Cond.fieldLink RX6 162 "GaugeColumns$Trial" "length" "I", Cond.methodLink RX6 146 yX5_prepare, Cond.methodLink RX6 152 yX5_run, Cond.methodLink RL 76 yX7_test, Cond.instanceMethod yX7_test, Cond.selects RX7 yX7_test yX7_test, Cond.code yX7_test cX7_test 3 (some .int), Cond.methodLink RL 77 yX6_bestError, Cond.instanceMethod yX6_bestError, Cond.selects RX6 yX6_bestError yX6_bestError, Cond.code yX6_bestError cX6_bestError 7 (some .int), Cond.constant RX6 163 (2147483647), Cond.methodLink RL 80 yX7_bestError, Cond.instanceMethod yX7_bestError, Cond.selects RX7 yX7_bestError yX7_bestError, Cond.code yX7_bestError cX7_bestError 7 (some .int), Cond.methodLink RL 81 yX6_airCosts, Cond.instanceMethod yX6_airCosts]
def wsL_law_r25 : List Cond := [Cond.selects RX6 yX6_airCosts yX6_airCosts, Cond.code yX6_airCosts cX6_airCosts 2 (some .int), Cond.fieldLink RX6 164 "GaugeColumns" "LEAST" "[I", Cond.fieldLink RX6 167 "GaugeColumns" "MOST" "[I", Cond.methodLink RL 84 yX7_airCosts, Cond.instanceMethod yX7_airCosts, Cond.selects RX7 yX7_airCosts yX7_airCosts, Cond.code yX7_airCosts cX7_airCosts 3 (some .int), Cond.methodLink RL 87 yX6_put, Cond.instanceMethod yX6_put, Cond.selects RX6 yX6_put yX6_put, Cond.code yX6_put cX6_put 3 (some .int), Cond.methodLink RX6 170 yX3_append, Cond.instanceMethod yX3_append, Cond.selects RX3 yX3_append yX3_append, Cond.code yX3_append cX3_append 5 (some .int), Cond.fieldLink RX3 23 "GaugeColumns$Pad" "length" "I", Cond.constantLong RX3 27 (255), Cond.methodLink RX3 19 yX3_howMany, Cond.static yX3_howMany, Cond.code yX3_howMany cX3_howMany 5 (some .int), Cond.constantLong RX3 29 (33), Cond.constantLong RX3 31 (126), Cond.methodLink RL 91 yX7_put]
def wsL_law_r26 : List Cond := [Cond.instanceMethod yX7_put, Cond.selects RX7 yX7_put yX7_put, Cond.code yX7_put cX7_put 8 (some .int), Cond.constantLong RX7 169 (255), Cond.methodLink RL 92 yX6_wipe, Cond.instanceMethod yX6_wipe, Cond.selects RX6 yX6_wipe yX6_wipe, Cond.code yX6_wipe cX6_wipe 1 (some .int), Cond.methodLink RX6 174 yX3_clear, Cond.instanceMethod yX3_clear, Cond.selects RX3 yX3_clear yX3_clear, Cond.code yX3_clear cX3_clear 2 (some .int), Cond.methodLink RL 95 yX7_wipe, Cond.instanceMethod yX7_wipe, Cond.selects RX7 yX7_wipe yX7_wipe, Cond.code yX7_wipe cX7_wipe 2 (some .int), Cond.methodLink RL 96 yX6_fault, Cond.instanceMethod yX6_fault, Cond.selects RX6 yX6_fault yX6_fault, Cond.code yX6_fault cX6_fault 1 (some .int), Cond.methodLink RX6 177 yX3_findFault, Cond.instanceMethod yX3_findFault, Cond.selects RX3 yX3_findFault yX3_findFault, Cond.code yX3_findFault cX3_findFault 3 (some .int)]
def wsL_law_r27 : List Cond := [Cond.fieldLink RX3 40 "GaugeColumns$Pad" "cursor" "I", Cond.methodLink RX3 33 yX3_rewind, Cond.instanceMethod yX3_rewind, Cond.selects RX3 yX3_rewind yX3_rewind, Cond.code yX3_rewind cX3_rewind 1 none, Cond.methodLink RX3 36 yX3_nextOrder, Cond.instanceMethod yX3_nextOrder, Cond.selects RX3 yX3_nextOrder yX3_nextOrder, Cond.code yX3_nextOrder cX3_nextOrder 1 (some .boolean), Cond.fieldLink RX3 51 "GaugeColumns$Pad" "kind" "I", Cond.methodLink RX3 43 yX3_pass, Cond.instanceMethod yX3_pass, Cond.selects RX3 yX3_pass yX3_pass, Cond.code yX3_pass cX3_pass 2 (some .boolean), Cond.methodLink RX3 47 yX3_signAt, Cond.instanceMethod yX3_signAt, Cond.selects RX3 yX3_signAt yX3_signAt, Cond.code yX3_signAt cX3_signAt 2 (some .int), Cond.methodLink RX3 54 yX3_readNumber, Cond.instanceMethod yX3_readNumber, Cond.selects RX3 yX3_readNumber yX3_readNumber, Cond.code yX3_readNumber cX3_readNumber 4 (some .boolean), Cond.methodLink RX3 63 yX3_isDigit, Cond.static yX3_isDigit]
def wsL_law_r28 : List Cond := [Cond.code yX3_isDigit cX3_isDigit 1 (some .boolean), Cond.methodLink RX3 57 yX3_readDigit, Cond.instanceMethod yX3_readDigit, Cond.selects RX3 yX3_readDigit yX3_readDigit, Cond.code yX3_readDigit cX3_readDigit 2 (some .boolean), Cond.methodLink RX3 60 yX3_readValue, Cond.instanceMethod yX3_readValue, Cond.selects RX3 yX3_readValue yX3_readValue, Cond.code yX3_readValue cX3_readValue 2 (some .boolean), Cond.methodLink RL 99 yX7_fault, Cond.instanceMethod yX7_fault, Cond.selects RX7 yX7_fault yX7_fault, Cond.code yX7_fault cX7_fault 1 (some .int), Cond.methodLink RX7 205 yX7_findFault, Cond.instanceMethod yX7_findFault, Cond.selects RX7 yX7_findFault yX7_findFault, Cond.code yX7_findFault cX7_findFault 1 (some .int), Cond.fieldLink RX7 171 "GaugeColumnsModel" "at" "I", Cond.methodLink RX7 202 yX7_readsOrder, Cond.instanceMethod yX7_readsOrder, Cond.selects RX7 yX7_readsOrder yX7_readsOrder, Cond.code yX7_readsOrder cX7_readsOrder 1 (some .boolean), Cond.fieldLink RX7 195 "GaugeColumnsModel" "letter" "I", Cond.fieldLink RX7 186 "GaugeColumnsModel" "first" "I"]
def wsL_law_r29 : List Cond := [Cond.methodLink RX7 174 yX7_character, Cond.instanceMethod yX7_character, Cond.selects RX7 yX7_character yX7_character, Cond.code yX7_character cX7_character 2 (some .int), Cond.methodLink RX7 183 yX7_takeNumber, Cond.instanceMethod yX7_takeNumber, Cond.selects RX7 yX7_takeNumber yX7_takeNumber, Cond.code yX7_takeNumber cX7_takeNumber 2 (some .int), Cond.methodLink RX7 177 yX7_takeDigit, Cond.instanceMethod yX7_takeDigit, Cond.selects RX7 yX7_takeDigit yX7_takeDigit, Cond.code yX7_takeDigit cX7_takeDigit 2 (some .int), Cond.methodLink RX7 198 yX7_readsGauge, Cond.instanceMethod yX7_readsGauge, Cond.selects RX7 yX7_readsGauge yX7_readsGauge, Cond.code yX7_readsGauge cX7_readsGauge 3 (some .boolean), Cond.fieldLink RX7 189 "GaugeColumnsModel" "second" "I", Cond.fieldLink RX7 192 "GaugeColumnsModel" "third" "I", Cond.methodLink RX7 180 yX7_isNext, Cond.instanceMethod yX7_isNext, Cond.selects RX7 yX7_isNext yX7_isNext, Cond.code yX7_isNext cX7_isNext 3 (some .boolean), Cond.methodLink RL 100 yX6_carryOut, Cond.instanceMethod yX6_carryOut]
def wsL_law_r30 : List Cond := [Cond.selects RX6 yX6_carryOut yX6_carryOut, Cond.code yX6_carryOut cX6_carryOut 2 (some .int), Cond.methodLink RX6 180 yX3_rewind, Cond.methodLink RX6 183 yX3_nextOrder, Cond.methodLink RX6 187 yX6_carryOutOrder, Cond.instanceMethod yX6_carryOutOrder, Cond.selects RX6 yX6_carryOutOrder yX6_carryOutOrder, Cond.code yX6_carryOutOrder cX6_carryOutOrder 2 (some .int), Cond.fieldLink RX6 190 "GaugeColumns$Pad" "numbers" "[I", Cond.fieldLink RX6 193 "GaugeColumns$Pad" "kind" "I", Cond.methodLink RL 103 yX7_carryOut, Cond.instanceMethod yX7_carryOut, Cond.selects RX7 yX7_carryOut yX7_carryOut, Cond.code yX7_carryOut cX7_carryOut 3 (some .int), Cond.methodLink RX7 208 yX7_whyNotDone, Cond.instanceMethod yX7_whyNotDone, Cond.selects RX7 yX7_whyNotDone yX7_whyNotDone, Cond.code yX7_whyNotDone cX7_whyNotDone 1 (some .int), Cond.methodLink RX7 211 yX7_does, Cond.instanceMethod yX7_does, Cond.selects RX7 yX7_does yX7_does, Cond.code yX7_does cX7_does 1 none, Cond.methodLink RL 104 yX6_undo, Cond.instanceMethod yX6_undo]
def wsL_law_r31 : List Cond := [Cond.selects RX6 yX6_undo yX6_undo, Cond.code yX6_undo cX6_undo 1 (some .int), Cond.methodLink RX6 196 yX2_stepBack, Cond.instanceMethod yX2_stepBack, Cond.selects RX2 yX2_stepBack yX2_stepBack, Cond.code yX2_stepBack cX2_stepBack 2 (some .int), Cond.methodLink RL 107 yX7_undo, Cond.instanceMethod yX7_undo, Cond.selects RX7 yX7_undo yX7_undo, Cond.code yX7_undo cX7_undo 1 (some .int), Cond.methodLink RL 108 yX6_save, Cond.instanceMethod yX6_save, Cond.selects RX6 yX6_save yX6_save, Cond.code yX6_save cX6_save 2 (some .int), Cond.methodLink RX6 200 yX4_copyFrom, Cond.methodLink RL 111 yX7_save, Cond.instanceMethod yX7_save, Cond.selects RX7 yX7_save yX7_save, Cond.code yX7_save cX7_save 2 (some .int), Cond.methodLink RL 112 yX6_restore, Cond.instanceMethod yX6_restore, Cond.selects RX6 yX6_restore yX6_restore, Cond.code yX6_restore cX6_restore 2 (some .int), Cond.methodLink RL 115 yX7_restore]
def wsL_law_r32 : List Cond := [Cond.instanceMethod yX7_restore, Cond.selects RX7 yX7_restore yX7_restore, Cond.code yX7_restore cX7_restore 2 (some .int)]
def wsL_law : List Cond := (wsL_law_r1 ++ (wsL_law_r2 ++ (wsL_law_r3 ++ (wsL_law_r4 ++ (wsL_law_r5 ++ (wsL_law_r6 ++ (wsL_law_r7 ++ (wsL_law_r8 ++ (wsL_law_r9 ++ (wsL_law_r10 ++ (wsL_law_r11 ++ (wsL_law_r12 ++ (wsL_law_r13 ++ (wsL_law_r14 ++ (wsL_law_r15 ++ (wsL_law_r16 ++ (wsL_law_r17 ++ (wsL_law_r18 ++ (wsL_law_r19 ++ (wsL_law_r20 ++ (wsL_law_r21 ++ (wsL_law_r22 ++ (wsL_law_r23 ++ (wsL_law_r24 ++ (wsL_law_r25 ++ (wsL_law_r26 ++ (wsL_law_r27 ++ (wsL_law_r28 ++ (wsL_law_r29 ++ (wsL_law_r30 ++ (wsL_law_r31 ++ wsL_law_r32))))))))))))))))))))))))))))))) ++ wsX60 ++ wsX70 ++ wsX40 ++ wsX20 ++ wsX50 ++ wsX30 ++ wsX10 ++ wsX00 ++ ([] : List Cond)
/-! ===== END printed ===== -/
theorem wc_1 : ∀ w ∈ wsL_law_r1, w ∈ wsL_law := fun w h => List.mem_append_left _ (List.mem_append_left _ (List.mem_append_left _ (List.mem_append_left _ (List.mem_append_left _ (List.mem_append_left _ (List.mem_append_left _ (List.mem_append_left _ (List.mem_append_left _ (List.mem_append_left _ h)))))))))
theorem wc_2 : ∀ w ∈ wsL_law_r2, w ∈ wsL_law := fun w h => List.mem_append_left _ (List.mem_append_left _ (List.mem_append_left _ (List.mem_append_left _ (List.mem_append_left _ (List.mem_append_left _ (List.mem_append_left _ (List.mem_append_left _ (List.mem_append_left _ (List.mem_append_right _ (List.mem_append_left _ h))))))))))
theorem wc_3 : ∀ w ∈ wsL_law_r3, w ∈ wsL_law := fun w h => List.mem_append_left _ (List.mem_append_left _ (List.mem_append_left _ (List.mem_append_left _ (List.mem_append_left _ (List.mem_append_left _ (List.mem_append_left _ (List.mem_append_left _ (List.mem_append_left _ (List.mem_append_right _ (List.mem_append_right _ (List.mem_append_left _ h)))))))))))
theorem wc_4 : ∀ w ∈ wsL_law_r4, w ∈ wsL_law := fun w h => List.mem_append_left _ (List.mem_append_left _ (List.mem_append_left _ (List.mem_append_left _ (List.mem_append_left _ (List.mem_append_left _ (List.mem_append_left _ (List.mem_append_left _ (List.mem_append_left _ (List.mem_append_right _ (List.mem_append_right _ (List.mem_append_right _ (List.mem_append_left _ h))))))))))))
theorem wc_5 : ∀ w ∈ wsL_law_r5, w ∈ wsL_law := fun w h => List.mem_append_left _ (List.mem_append_left _ (List.mem_append_left _ (List.mem_append_left _ (List.mem_append_left _ (List.mem_append_left _ (List.mem_append_left _ (List.mem_append_left _ (List.mem_append_left _ (List.mem_append_right _ (List.mem_append_right _ (List.mem_append_right _ (List.mem_append_right _ (List.mem_append_left _ h)))))))))))))
theorem wc_6 : ∀ w ∈ wsL_law_r6, w ∈ wsL_law := fun w h => List.mem_append_left _ (List.mem_append_left _ (List.mem_append_left _ (List.mem_append_left _ (List.mem_append_left _ (List.mem_append_left _ (List.mem_append_left _ (List.mem_append_left _ (List.mem_append_left _ (List.mem_append_right _ (List.mem_append_right _ (List.mem_append_right _ (List.mem_append_right _ (List.mem_append_right _ (List.mem_append_left _ h))))))))))))))
theorem wc_7 : ∀ w ∈ wsL_law_r7, w ∈ wsL_law := fun w h => List.mem_append_left _ (List.mem_append_left _ (List.mem_append_left _ (List.mem_append_left _ (List.mem_append_left _ (List.mem_append_left _ (List.mem_append_left _ (List.mem_append_left _ (List.mem_append_left _ (List.mem_append_right _ (List.mem_append_right _ (List.mem_append_right _ (List.mem_append_right _ (List.mem_append_right _ (List.mem_append_right _ (List.mem_append_left _ h)))))))))))))))
theorem wc_8 : ∀ w ∈ wsL_law_r8, w ∈ wsL_law := fun w h => List.mem_append_left _ (List.mem_append_left _ (List.mem_append_left _ (List.mem_append_left _ (List.mem_append_left _ (List.mem_append_left _ (List.mem_append_left _ (List.mem_append_left _ (List.mem_append_left _ (List.mem_append_right _ (List.mem_append_right _ (List.mem_append_right _ (List.mem_append_right _ (List.mem_append_right _ (List.mem_append_right _ (List.mem_append_right _ (List.mem_append_left _ h))))))))))))))))
theorem wc_9 : ∀ w ∈ wsL_law_r9, w ∈ wsL_law := fun w h => List.mem_append_left _ (List.mem_append_left _ (List.mem_append_left _ (List.mem_append_left _ (List.mem_append_left _ (List.mem_append_left _ (List.mem_append_left _ (List.mem_append_left _ (List.mem_append_left _ (List.mem_append_right _ (List.mem_append_right _ (List.mem_append_right _ (List.mem_append_right _ (List.mem_append_right _ (List.mem_append_right _ (List.mem_append_right _ (List.mem_append_right _ (List.mem_append_left _ h)))))))))))))))))
theorem wc_10 : ∀ w ∈ wsL_law_r10, w ∈ wsL_law := fun w h => List.mem_append_left _ (List.mem_append_left _ (List.mem_append_left _ (List.mem_append_left _ (List.mem_append_left _ (List.mem_append_left _ (List.mem_append_left _ (List.mem_append_left _ (List.mem_append_left _ (List.mem_append_right _ (List.mem_append_right _ (List.mem_append_right _ (List.mem_append_right _ (List.mem_append_right _ (List.mem_append_right _ (List.mem_append_right _ (List.mem_append_right _ (List.mem_append_right _ (List.mem_append_left _ h))))))))))))))))))
theorem wc_11 : ∀ w ∈ wsL_law_r11, w ∈ wsL_law := fun w h => List.mem_append_left _ (List.mem_append_left _ (List.mem_append_left _ (List.mem_append_left _ (List.mem_append_left _ (List.mem_append_left _ (List.mem_append_left _ (List.mem_append_left _ (List.mem_append_left _ (List.mem_append_right _ (List.mem_append_right _ (List.mem_append_right _ (List.mem_append_right _ (List.mem_append_right _ (List.mem_append_right _ (List.mem_append_right _ (List.mem_append_right _ (List.mem_append_right _ (List.mem_append_right _ (List.mem_append_left _ h)))))))))))))))))))
theorem wc_12 : ∀ w ∈ wsL_law_r12, w ∈ wsL_law := fun w h => List.mem_append_left _ (List.mem_append_left _ (List.mem_append_left _ (List.mem_append_left _ (List.mem_append_left _ (List.mem_append_left _ (List.mem_append_left _ (List.mem_append_left _ (List.mem_append_left _ (List.mem_append_right _ (List.mem_append_right _ (List.mem_append_right _ (List.mem_append_right _ (List.mem_append_right _ (List.mem_append_right _ (List.mem_append_right _ (List.mem_append_right _ (List.mem_append_right _ (List.mem_append_right _ (List.mem_append_right _ (List.mem_append_left _ h))))))))))))))))))))
theorem wc_13 : ∀ w ∈ wsL_law_r13, w ∈ wsL_law := fun w h => List.mem_append_left _ (List.mem_append_left _ (List.mem_append_left _ (List.mem_append_left _ (List.mem_append_left _ (List.mem_append_left _ (List.mem_append_left _ (List.mem_append_left _ (List.mem_append_left _ (List.mem_append_right _ (List.mem_append_right _ (List.mem_append_right _ (List.mem_append_right _ (List.mem_append_right _ (List.mem_append_right _ (List.mem_append_right _ (List.mem_append_right _ (List.mem_append_right _ (List.mem_append_right _ (List.mem_append_right _ (List.mem_append_right _ (List.mem_append_left _ h)))))))))))))))))))))
theorem wc_14 : ∀ w ∈ wsL_law_r14, w ∈ wsL_law := fun w h => List.mem_append_left _ (List.mem_append_left _ (List.mem_append_left _ (List.mem_append_left _ (List.mem_append_left _ (List.mem_append_left _ (List.mem_append_left _ (List.mem_append_left _ (List.mem_append_left _ (List.mem_append_right _ (List.mem_append_right _ (List.mem_append_right _ (List.mem_append_right _ (List.mem_append_right _ (List.mem_append_right _ (List.mem_append_right _ (List.mem_append_right _ (List.mem_append_right _ (List.mem_append_right _ (List.mem_append_right _ (List.mem_append_right _ (List.mem_append_right _ (List.mem_append_left _ h))))))))))))))))))))))
theorem wc_15 : ∀ w ∈ wsL_law_r15, w ∈ wsL_law := fun w h => List.mem_append_left _ (List.mem_append_left _ (List.mem_append_left _ (List.mem_append_left _ (List.mem_append_left _ (List.mem_append_left _ (List.mem_append_left _ (List.mem_append_left _ (List.mem_append_left _ (List.mem_append_right _ (List.mem_append_right _ (List.mem_append_right _ (List.mem_append_right _ (List.mem_append_right _ (List.mem_append_right _ (List.mem_append_right _ (List.mem_append_right _ (List.mem_append_right _ (List.mem_append_right _ (List.mem_append_right _ (List.mem_append_right _ (List.mem_append_right _ (List.mem_append_right _ (List.mem_append_left _ h)))))))))))))))))))))))
theorem wc_16 : ∀ w ∈ wsL_law_r16, w ∈ wsL_law := fun w h => List.mem_append_left _ (List.mem_append_left _ (List.mem_append_left _ (List.mem_append_left _ (List.mem_append_left _ (List.mem_append_left _ (List.mem_append_left _ (List.mem_append_left _ (List.mem_append_left _ (List.mem_append_right _ (List.mem_append_right _ (List.mem_append_right _ (List.mem_append_right _ (List.mem_append_right _ (List.mem_append_right _ (List.mem_append_right _ (List.mem_append_right _ (List.mem_append_right _ (List.mem_append_right _ (List.mem_append_right _ (List.mem_append_right _ (List.mem_append_right _ (List.mem_append_right _ (List.mem_append_right _ (List.mem_append_left _ h))))))))))))))))))))))))
theorem wc_17 : ∀ w ∈ wsL_law_r17, w ∈ wsL_law := fun w h => List.mem_append_left _ (List.mem_append_left _ (List.mem_append_left _ (List.mem_append_left _ (List.mem_append_left _ (List.mem_append_left _ (List.mem_append_left _ (List.mem_append_left _ (List.mem_append_left _ (List.mem_append_right _ (List.mem_append_right _ (List.mem_append_right _ (List.mem_append_right _ (List.mem_append_right _ (List.mem_append_right _ (List.mem_append_right _ (List.mem_append_right _ (List.mem_append_right _ (List.mem_append_right _ (List.mem_append_right _ (List.mem_append_right _ (List.mem_append_right _ (List.mem_append_right _ (List.mem_append_right _ (List.mem_append_right _ (List.mem_append_left _ h)))))))))))))))))))))))))
theorem wc_18 : ∀ w ∈ wsL_law_r18, w ∈ wsL_law := fun w h => List.mem_append_left _ (List.mem_append_left _ (List.mem_append_left _ (List.mem_append_left _ (List.mem_append_left _ (List.mem_append_left _ (List.mem_append_left _ (List.mem_append_left _ (List.mem_append_left _ (List.mem_append_right _ (List.mem_append_right _ (List.mem_append_right _ (List.mem_append_right _ (List.mem_append_right _ (List.mem_append_right _ (List.mem_append_right _ (List.mem_append_right _ (List.mem_append_right _ (List.mem_append_right _ (List.mem_append_right _ (List.mem_append_right _ (List.mem_append_right _ (List.mem_append_right _ (List.mem_append_right _ (List.mem_append_right _ (List.mem_append_right _ (List.mem_append_left _ h))))))))))))))))))))))))))
theorem wc_19 : ∀ w ∈ wsL_law_r19, w ∈ wsL_law := fun w h => List.mem_append_left _ (List.mem_append_left _ (List.mem_append_left _ (List.mem_append_left _ (List.mem_append_left _ (List.mem_append_left _ (List.mem_append_left _ (List.mem_append_left _ (List.mem_append_left _ (List.mem_append_right _ (List.mem_append_right _ (List.mem_append_right _ (List.mem_append_right _ (List.mem_append_right _ (List.mem_append_right _ (List.mem_append_right _ (List.mem_append_right _ (List.mem_append_right _ (List.mem_append_right _ (List.mem_append_right _ (List.mem_append_right _ (List.mem_append_right _ (List.mem_append_right _ (List.mem_append_right _ (List.mem_append_right _ (List.mem_append_right _ (List.mem_append_right _ (List.mem_append_left _ h)))))))))))))))))))))))))))
theorem wc_20 : ∀ w ∈ wsL_law_r20, w ∈ wsL_law := fun w h => List.mem_append_left _ (List.mem_append_left _ (List.mem_append_left _ (List.mem_append_left _ (List.mem_append_left _ (List.mem_append_left _ (List.mem_append_left _ (List.mem_append_left _ (List.mem_append_left _ (List.mem_append_right _ (List.mem_append_right _ (List.mem_append_right _ (List.mem_append_right _ (List.mem_append_right _ (List.mem_append_right _ (List.mem_append_right _ (List.mem_append_right _ (List.mem_append_right _ (List.mem_append_right _ (List.mem_append_right _ (List.mem_append_right _ (List.mem_append_right _ (List.mem_append_right _ (List.mem_append_right _ (List.mem_append_right _ (List.mem_append_right _ (List.mem_append_right _ (List.mem_append_right _ (List.mem_append_left _ h))))))))))))))))))))))))))))
theorem wc_21 : ∀ w ∈ wsL_law_r21, w ∈ wsL_law := fun w h => List.mem_append_left _ (List.mem_append_left _ (List.mem_append_left _ (List.mem_append_left _ (List.mem_append_left _ (List.mem_append_left _ (List.mem_append_left _ (List.mem_append_left _ (List.mem_append_left _ (List.mem_append_right _ (List.mem_append_right _ (List.mem_append_right _ (List.mem_append_right _ (List.mem_append_right _ (List.mem_append_right _ (List.mem_append_right _ (List.mem_append_right _ (List.mem_append_right _ (List.mem_append_right _ (List.mem_append_right _ (List.mem_append_right _ (List.mem_append_right _ (List.mem_append_right _ (List.mem_append_right _ (List.mem_append_right _ (List.mem_append_right _ (List.mem_append_right _ (List.mem_append_right _ (List.mem_append_right _ (List.mem_append_left _ h)))))))))))))))))))))))))))))
theorem wc_22 : ∀ w ∈ wsL_law_r22, w ∈ wsL_law := fun w h => List.mem_append_left _ (List.mem_append_left _ (List.mem_append_left _ (List.mem_append_left _ (List.mem_append_left _ (List.mem_append_left _ (List.mem_append_left _ (List.mem_append_left _ (List.mem_append_left _ (List.mem_append_right _ (List.mem_append_right _ (List.mem_append_right _ (List.mem_append_right _ (List.mem_append_right _ (List.mem_append_right _ (List.mem_append_right _ (List.mem_append_right _ (List.mem_append_right _ (List.mem_append_right _ (List.mem_append_right _ (List.mem_append_right _ (List.mem_append_right _ (List.mem_append_right _ (List.mem_append_right _ (List.mem_append_right _ (List.mem_append_right _ (List.mem_append_right _ (List.mem_append_right _ (List.mem_append_right _ (List.mem_append_right _ (List.mem_append_left _ h))))))))))))))))))))))))))))))
theorem wc_23 : ∀ w ∈ wsL_law_r23, w ∈ wsL_law := fun w h => List.mem_append_left _ (List.mem_append_left _ (List.mem_append_left _ (List.mem_append_left _ (List.mem_append_left _ (List.mem_append_left _ (List.mem_append_left _ (List.mem_append_left _ (List.mem_append_left _ (List.mem_append_right _ (List.mem_append_right _ (List.mem_append_right _ (List.mem_append_right _ (List.mem_append_right _ (List.mem_append_right _ (List.mem_append_right _ (List.mem_append_right _ (List.mem_append_right _ (List.mem_append_right _ (List.mem_append_right _ (List.mem_append_right _ (List.mem_append_right _ (List.mem_append_right _ (List.mem_append_right _ (List.mem_append_right _ (List.mem_append_right _ (List.mem_append_right _ (List.mem_append_right _ (List.mem_append_right _ (List.mem_append_right _ (List.mem_append_right _ (List.mem_append_left _ h)))))))))))))))))))))))))))))))
theorem wc_24 : ∀ w ∈ wsL_law_r24, w ∈ wsL_law := fun w h => List.mem_append_left _ (List.mem_append_left _ (List.mem_append_left _ (List.mem_append_left _ (List.mem_append_left _ (List.mem_append_left _ (List.mem_append_left _ (List.mem_append_left _ (List.mem_append_left _ (List.mem_append_right _ (List.mem_append_right _ (List.mem_append_right _ (List.mem_append_right _ (List.mem_append_right _ (List.mem_append_right _ (List.mem_append_right _ (List.mem_append_right _ (List.mem_append_right _ (List.mem_append_right _ (List.mem_append_right _ (List.mem_append_right _ (List.mem_append_right _ (List.mem_append_right _ (List.mem_append_right _ (List.mem_append_right _ (List.mem_append_right _ (List.mem_append_right _ (List.mem_append_right _ (List.mem_append_right _ (List.mem_append_right _ (List.mem_append_right _ (List.mem_append_right _ (List.mem_append_left _ h))))))))))))))))))))))))))))))))
theorem wc_25 : ∀ w ∈ wsL_law_r25, w ∈ wsL_law := fun w h => List.mem_append_left _ (List.mem_append_left _ (List.mem_append_left _ (List.mem_append_left _ (List.mem_append_left _ (List.mem_append_left _ (List.mem_append_left _ (List.mem_append_left _ (List.mem_append_left _ (List.mem_append_right _ (List.mem_append_right _ (List.mem_append_right _ (List.mem_append_right _ (List.mem_append_right _ (List.mem_append_right _ (List.mem_append_right _ (List.mem_append_right _ (List.mem_append_right _ (List.mem_append_right _ (List.mem_append_right _ (List.mem_append_right _ (List.mem_append_right _ (List.mem_append_right _ (List.mem_append_right _ (List.mem_append_right _ (List.mem_append_right _ (List.mem_append_right _ (List.mem_append_right _ (List.mem_append_right _ (List.mem_append_right _ (List.mem_append_right _ (List.mem_append_right _ (List.mem_append_right _ (List.mem_append_left _ h)))))))))))))))))))))))))))))))))
theorem wc_26 : ∀ w ∈ wsL_law_r26, w ∈ wsL_law := fun w h => List.mem_append_left _ (List.mem_append_left _ (List.mem_append_left _ (List.mem_append_left _ (List.mem_append_left _ (List.mem_append_left _ (List.mem_append_left _ (List.mem_append_left _ (List.mem_append_left _ (List.mem_append_right _ (List.mem_append_right _ (List.mem_append_right _ (List.mem_append_right _ (List.mem_append_right _ (List.mem_append_right _ (List.mem_append_right _ (List.mem_append_right _ (List.mem_append_right _ (List.mem_append_right _ (List.mem_append_right _ (List.mem_append_right _ (List.mem_append_right _ (List.mem_append_right _ (List.mem_append_right _ (List.mem_append_right _ (List.mem_append_right _ (List.mem_append_right _ (List.mem_append_right _ (List.mem_append_right _ (List.mem_append_right _ (List.mem_append_right _ (List.mem_append_right _ (List.mem_append_right _ (List.mem_append_right _ (List.mem_append_left _ h))))))))))))))))))))))))))))))))))
theorem wc_27 : ∀ w ∈ wsL_law_r27, w ∈ wsL_law := fun w h => List.mem_append_left _ (List.mem_append_left _ (List.mem_append_left _ (List.mem_append_left _ (List.mem_append_left _ (List.mem_append_left _ (List.mem_append_left _ (List.mem_append_left _ (List.mem_append_left _ (List.mem_append_right _ (List.mem_append_right _ (List.mem_append_right _ (List.mem_append_right _ (List.mem_append_right _ (List.mem_append_right _ (List.mem_append_right _ (List.mem_append_right _ (List.mem_append_right _ (List.mem_append_right _ (List.mem_append_right _ (List.mem_append_right _ (List.mem_append_right _ (List.mem_append_right _ (List.mem_append_right _ (List.mem_append_right _ (List.mem_append_right _ (List.mem_append_right _ (List.mem_append_right _ (List.mem_append_right _ (List.mem_append_right _ (List.mem_append_right _ (List.mem_append_right _ (List.mem_append_right _ (List.mem_append_right _ (List.mem_append_right _ (List.mem_append_left _ h)))))))))))))))))))))))))))))))))))
theorem wc_28 : ∀ w ∈ wsL_law_r28, w ∈ wsL_law := fun w h => List.mem_append_left _ (List.mem_append_left _ (List.mem_append_left _ (List.mem_append_left _ (List.mem_append_left _ (List.mem_append_left _ (List.mem_append_left _ (List.mem_append_left _ (List.mem_append_left _ (List.mem_append_right _ (List.mem_append_right _ (List.mem_append_right _ (List.mem_append_right _ (List.mem_append_right _ (List.mem_append_right _ (List.mem_append_right _ (List.mem_append_right _ (List.mem_append_right _ (List.mem_append_right _ (List.mem_append_right _ (List.mem_append_right _ (List.mem_append_right _ (List.mem_append_right _ (List.mem_append_right _ (List.mem_append_right _ (List.mem_append_right _ (List.mem_append_right _ (List.mem_append_right _ (List.mem_append_right _ (List.mem_append_right _ (List.mem_append_right _ (List.mem_append_right _ (List.mem_append_right _ (List.mem_append_right _ (List.mem_append_right _ (List.mem_append_right _ (List.mem_append_left _ h))))))))))))))))))))))))))))))))))))
theorem wc_29 : ∀ w ∈ wsL_law_r29, w ∈ wsL_law := fun w h => List.mem_append_left _ (List.mem_append_left _ (List.mem_append_left _ (List.mem_append_left _ (List.mem_append_left _ (List.mem_append_left _ (List.mem_append_left _ (List.mem_append_left _ (List.mem_append_left _ (List.mem_append_right _ (List.mem_append_right _ (List.mem_append_right _ (List.mem_append_right _ (List.mem_append_right _ (List.mem_append_right _ (List.mem_append_right _ (List.mem_append_right _ (List.mem_append_right _ (List.mem_append_right _ (List.mem_append_right _ (List.mem_append_right _ (List.mem_append_right _ (List.mem_append_right _ (List.mem_append_right _ (List.mem_append_right _ (List.mem_append_right _ (List.mem_append_right _ (List.mem_append_right _ (List.mem_append_right _ (List.mem_append_right _ (List.mem_append_right _ (List.mem_append_right _ (List.mem_append_right _ (List.mem_append_right _ (List.mem_append_right _ (List.mem_append_right _ (List.mem_append_right _ (List.mem_append_left _ h)))))))))))))))))))))))))))))))))))))
theorem wc_30 : ∀ w ∈ wsL_law_r30, w ∈ wsL_law := fun w h => List.mem_append_left _ (List.mem_append_left _ (List.mem_append_left _ (List.mem_append_left _ (List.mem_append_left _ (List.mem_append_left _ (List.mem_append_left _ (List.mem_append_left _ (List.mem_append_left _ (List.mem_append_right _ (List.mem_append_right _ (List.mem_append_right _ (List.mem_append_right _ (List.mem_append_right _ (List.mem_append_right _ (List.mem_append_right _ (List.mem_append_right _ (List.mem_append_right _ (List.mem_append_right _ (List.mem_append_right _ (List.mem_append_right _ (List.mem_append_right _ (List.mem_append_right _ (List.mem_append_right _ (List.mem_append_right _ (List.mem_append_right _ (List.mem_append_right _ (List.mem_append_right _ (List.mem_append_right _ (List.mem_append_right _ (List.mem_append_right _ (List.mem_append_right _ (List.mem_append_right _ (List.mem_append_right _ (List.mem_append_right _ (List.mem_append_right _ (List.mem_append_right _ (List.mem_append_right _ (List.mem_append_left _ h))))))))))))))))))))))))))))))))))))))
theorem wc_31 : ∀ w ∈ wsL_law_r31, w ∈ wsL_law := fun w h => List.mem_append_left _ (List.mem_append_left _ (List.mem_append_left _ (List.mem_append_left _ (List.mem_append_left _ (List.mem_append_left _ (List.mem_append_left _ (List.mem_append_left _ (List.mem_append_left _ (List.mem_append_right _ (List.mem_append_right _ (List.mem_append_right _ (List.mem_append_right _ (List.mem_append_right _ (List.mem_append_right _ (List.mem_append_right _ (List.mem_append_right _ (List.mem_append_right _ (List.mem_append_right _ (List.mem_append_right _ (List.mem_append_right _ (List.mem_append_right _ (List.mem_append_right _ (List.mem_append_right _ (List.mem_append_right _ (List.mem_append_right _ (List.mem_append_right _ (List.mem_append_right _ (List.mem_append_right _ (List.mem_append_right _ (List.mem_append_right _ (List.mem_append_right _ (List.mem_append_right _ (List.mem_append_right _ (List.mem_append_right _ (List.mem_append_right _ (List.mem_append_right _ (List.mem_append_right _ (List.mem_append_right _ (List.mem_append_left _ h)))))))))))))))))))))))))))))))))))))))
theorem wc_32 : ∀ w ∈ wsL_law_r32, w ∈ wsL_law := fun w h => List.mem_append_left _ (List.mem_append_left _ (List.mem_append_left _ (List.mem_append_left _ (List.mem_append_left _ (List.mem_append_left _ (List.mem_append_left _ (List.mem_append_left _ (List.mem_append_left _ (List.mem_append_right _ (List.mem_append_right _ (List.mem_append_right _ (List.mem_append_right _ (List.mem_append_right _ (List.mem_append_right _ (List.mem_append_right _ (List.mem_append_right _ (List.mem_append_right _ (List.mem_append_right _ (List.mem_append_right _ (List.mem_append_right _ (List.mem_append_right _ (List.mem_append_right _ (List.mem_append_right _ (List.mem_append_right _ (List.mem_append_right _ (List.mem_append_right _ (List.mem_append_right _ (List.mem_append_right _ (List.mem_append_right _ (List.mem_append_right _ (List.mem_append_right _ (List.mem_append_right _ (List.mem_append_right _ (List.mem_append_right _ (List.mem_append_right _ (List.mem_append_right _ (List.mem_append_right _ (List.mem_append_right _ (List.mem_append_right _ (h))))))))))))))))))))))))))))))))))))))))
theorem wl_6 : ∀ w ∈ wsX60, w ∈ wsL_law := fun w h => List.mem_append_left _ (List.mem_append_left _ (List.mem_append_left _ (List.mem_append_left _ (List.mem_append_left _ (List.mem_append_left _ (List.mem_append_left _ (List.mem_append_left _ (List.mem_append_right _ h))))))))
theorem wl_7 : ∀ w ∈ wsX70, w ∈ wsL_law := fun w h => List.mem_append_left _ (List.mem_append_left _ (List.mem_append_left _ (List.mem_append_left _ (List.mem_append_left _ (List.mem_append_left _ (List.mem_append_left _ (List.mem_append_right _ h)))))))
theorem wl_4 : ∀ w ∈ wsX40, w ∈ wsL_law := fun w h => List.mem_append_left _ (List.mem_append_left _ (List.mem_append_left _ (List.mem_append_left _ (List.mem_append_left _ (List.mem_append_left _ (List.mem_append_right _ h))))))
theorem wl_2 : ∀ w ∈ wsX20, w ∈ wsL_law := fun w h => List.mem_append_left _ (List.mem_append_left _ (List.mem_append_left _ (List.mem_append_left _ (List.mem_append_left _ (List.mem_append_right _ h)))))
theorem wl_5 : ∀ w ∈ wsX50, w ∈ wsL_law := fun w h => List.mem_append_left _ (List.mem_append_left _ (List.mem_append_left _ (List.mem_append_left _ (List.mem_append_right _ h))))
theorem wl_3 : ∀ w ∈ wsX30, w ∈ wsL_law := fun w h => List.mem_append_left _ (List.mem_append_left _ (List.mem_append_left _ (List.mem_append_right _ h)))
theorem wl_1 : ∀ w ∈ wsX10, w ∈ wsL_law := fun w h => List.mem_append_left _ (List.mem_append_left _ (List.mem_append_right _ h))
theorem wl_0 : ∀ w ∈ wsX00, w ∈ wsL_law := fun w h => List.mem_append_left _ (List.mem_append_right _ h)
theorem wq_1_0 : Cond.classLink RL 7 RX6 ∈ wsL_law := wc_1 _ (List.mem_of_getElem? (i := 0) rfl)
theorem wq_1_1 : Cond.instantiable RX6 5 ∈ wsL_law := wc_1 _ (List.mem_of_getElem? (i := 1) rfl)
theorem wq_1_2 : Cond.initialized RX6 ∈ wsL_law := wc_1 _ (List.mem_of_getElem? (i := 2) rfl)
theorem wq_1_3 : Cond.classLink RL 10 RX7 ∈ wsL_law := wc_1 _ (List.mem_of_getElem? (i := 3) rfl)
theorem wq_1_4 : Cond.instantiable RX7 16 ∈ wsL_law := wc_1 _ (List.mem_of_getElem? (i := 4) rfl)
theorem wq_1_5 : Cond.initialized RX7 ∈ wsL_law := wc_1 _ (List.mem_of_getElem? (i := 5) rfl)
theorem wq_1_6 : Cond.constantLong RL 85 (4294967295) ∈ wsL_law := wc_1 _ (List.mem_of_getElem? (i := 6) rfl)
theorem wq_1_7 : Cond.methodLink RL 9 yX6_init ∈ wsL_law := wc_1 _ (List.mem_of_getElem? (i := 7) rfl)
theorem wq_1_8 : Cond.instanceMethod yX6_init ∈ wsL_law := wc_1 _ (List.mem_of_getElem? (i := 8) rfl)
theorem wq_1_9 : Cond.code yX6_init cX6_init 1 none ∈ wsL_law := wc_1 _ (List.mem_of_getElem? (i := 9) rfl)
theorem wq_1_10 : Cond.methodLink RX6 1 objectInit ∈ wsL_law := wc_1 _ (List.mem_of_getElem? (i := 10) rfl)
theorem wq_1_11 : Cond.instanceMethod objectInit ∈ wsL_law := wc_1 _ (List.mem_of_getElem? (i := 11) rfl)
theorem wq_1_12 : Cond.code objectInit ⟨#[0xb1]⟩ 1 none ∈ wsL_law := wc_1 _ (List.mem_of_getElem? (i := 12) rfl)
theorem wq_1_13 : Cond.classLink RX6 7 RX4 ∈ wsL_law := wc_1 _ (List.mem_of_getElem? (i := 13) rfl)
theorem wq_1_14 : Cond.instantiable RX4 6 ∈ wsL_law := wc_1 _ (List.mem_of_getElem? (i := 14) rfl)
theorem wq_1_15 : Cond.initialized RX4 ∈ wsL_law := wc_1 _ (List.mem_of_getElem? (i := 15) rfl)
theorem wq_1_16 : Cond.fieldLink RX6 10 "GaugeColumns" "now" "LGaugeColumns$Tester;" ∈ wsL_law := wc_1 _ (List.mem_of_getElem? (i := 16) rfl)
theorem wq_1_17 : Cond.classLink RX6 16 RX2 ∈ wsL_law := wc_1 _ (List.mem_of_getElem? (i := 17) rfl)
theorem wq_1_18 : Cond.instantiable RX2 3 ∈ wsL_law := wc_1 _ (List.mem_of_getElem? (i := 18) rfl)
theorem wq_1_19 : Cond.initialized RX2 ∈ wsL_law := wc_1 _ (List.mem_of_getElem? (i := 19) rfl)
theorem wq_1_20 : Cond.fieldLink RX6 19 "GaugeColumns" "history" "LGaugeColumns$History;" ∈ wsL_law := wc_1 _ (List.mem_of_getElem? (i := 20) rfl)
theorem wq_1_21 : Cond.fieldLink RX6 23 "GaugeColumns" "slots" "[LGaugeColumns$Tester;" ∈ wsL_law := wc_1 _ (List.mem_of_getElem? (i := 21) rfl)
theorem wq_1_22 : Cond.classLink RX6 27 RX5 ∈ wsL_law := wc_1 _ (List.mem_of_getElem? (i := 22) rfl)
theorem wq_1_23 : Cond.instantiable RX5 7 ∈ wsL_law := wc_1 _ (List.mem_of_getElem? (i := 23) rfl)
theorem wq_2_0 : Cond.initialized RX5 ∈ wsL_law := wc_2 _ (List.mem_of_getElem? (i := 0) rfl)
theorem wq_2_1 : Cond.fieldLink RX6 30 "GaugeColumns" "trial" "LGaugeColumns$Trial;" ∈ wsL_law := wc_2 _ (List.mem_of_getElem? (i := 1) rfl)
theorem wq_2_2 : Cond.classLink RX6 34 RX3 ∈ wsL_law := wc_2 _ (List.mem_of_getElem? (i := 2) rfl)
theorem wq_2_3 : Cond.instantiable RX3 5 ∈ wsL_law := wc_2 _ (List.mem_of_getElem? (i := 3) rfl)
theorem wq_2_4 : Cond.initialized RX3 ∈ wsL_law := wc_2 _ (List.mem_of_getElem? (i := 4) rfl)
theorem wq_2_5 : Cond.fieldLink RX6 37 "GaugeColumns" "pad" "LGaugeColumns$Pad;" ∈ wsL_law := wc_2 _ (List.mem_of_getElem? (i := 5) rfl)
theorem wq_2_6 : Cond.methodLink RX6 9 yX4_init ∈ wsL_law := wc_2 _ (List.mem_of_getElem? (i := 6) rfl)
theorem wq_2_7 : Cond.instanceMethod yX4_init ∈ wsL_law := wc_2 _ (List.mem_of_getElem? (i := 7) rfl)
theorem wq_2_8 : Cond.code yX4_init cX4_init 2 none ∈ wsL_law := wc_2 _ (List.mem_of_getElem? (i := 8) rfl)
theorem wq_2_9 : Cond.methodLink RX4 3 objectInit ∈ wsL_law := wc_2 _ (List.mem_of_getElem? (i := 9) rfl)
theorem wq_2_10 : Cond.methodLink RX4 13 ⟨"[I", "clone", "()Ljava/lang/Object;"⟩ ∈ wsL_law := wc_2 _ (List.mem_of_getElem? (i := 10) rfl)
theorem wq_2_11 : Cond.sameMethod "[I" "java/lang/Object" "clone" "()Ljava/lang/Object;" ∈ wsL_law := wc_2 _ (List.mem_of_getElem? (i := 11) rfl)
theorem wq_2_12 : Cond.native ⟨"java/lang/Object", "clone", "()Ljava/lang/Object;"⟩ ∈ wsL_law := wc_2 _ (List.mem_of_getElem? (i := 12) rfl)
theorem wq_2_13 : Cond.instanceMethod ⟨"java/lang/Object", "clone", "()Ljava/lang/Object;"⟩ ∈ wsL_law := wc_2 _ (List.mem_of_getElem? (i := 13) rfl)
theorem wq_2_14 : Cond.selects "[I" ⟨"[I", "clone", "()Ljava/lang/Object;"⟩ ⟨"java/lang/Object", "clone", "()Ljava/lang/Object;"⟩ ∈ wsL_law := wc_2 _ (List.mem_of_getElem? (i := 14) rfl)
theorem wq_2_15 : Cond.classLink RX4 14 "[I" ∈ wsL_law := wc_2 _ (List.mem_of_getElem? (i := 15) rfl)
theorem wq_2_16 : Cond.fieldLink RX4 18 "GaugeColumns$Tester" "settings" "[I" ∈ wsL_law := wc_2 _ (List.mem_of_getElem? (i := 16) rfl)
theorem wq_2_17 : Cond.arrayClass .int ∈ wsL_law := wc_2 _ (List.mem_of_getElem? (i := 17) rfl)
theorem wq_2_18 : Cond.fieldLink RX4 23 "GaugeColumns$Tester" "grams" "[I" ∈ wsL_law := wc_2 _ (List.mem_of_getElem? (i := 18) rfl)
theorem wq_2_19 : Cond.classLink RX4 26 RX1 ∈ wsL_law := wc_2 _ (List.mem_of_getElem? (i := 19) rfl)
theorem wq_2_20 : Cond.fieldLink RX4 28 "GaugeColumns$Tester" "gauges" "[LGaugeColumns$Gauge;" ∈ wsL_law := wc_2 _ (List.mem_of_getElem? (i := 20) rfl)
theorem wq_2_21 : Cond.instantiable RX1 5 ∈ wsL_law := wc_2 _ (List.mem_of_getElem? (i := 21) rfl)
theorem wq_2_22 : Cond.initialized RX1 ∈ wsL_law := wc_2 _ (List.mem_of_getElem? (i := 22) rfl)
theorem wq_2_23 : Cond.instanceMethod yX1_init ∈ wsL_law := wc_2 _ (List.mem_of_getElem? (i := 23) rfl)
theorem wq_3_0 : Cond.code yX1_init cX1_init 1 none ∈ wsL_law := wc_3 _ (List.mem_of_getElem? (i := 0) rfl)
theorem wq_3_1 : Cond.methodLink RX1 3 objectInit ∈ wsL_law := wc_3 _ (List.mem_of_getElem? (i := 1) rfl)
theorem wq_3_2 : Cond.methodLink RX6 18 yX2_init ∈ wsL_law := wc_3 _ (List.mem_of_getElem? (i := 2) rfl)
theorem wq_3_3 : Cond.instanceMethod yX2_init ∈ wsL_law := wc_3 _ (List.mem_of_getElem? (i := 3) rfl)
theorem wq_3_4 : Cond.code yX2_init cX2_init 2 none ∈ wsL_law := wc_3 _ (List.mem_of_getElem? (i := 4) rfl)
theorem wq_3_5 : Cond.methodLink RX2 3 objectInit ∈ wsL_law := wc_3 _ (List.mem_of_getElem? (i := 5) rfl)
theorem wq_3_6 : Cond.classLink RX2 9 RX4 ∈ wsL_law := wc_3 _ (List.mem_of_getElem? (i := 6) rfl)
theorem wq_3_7 : Cond.fieldLink RX2 11 "GaugeColumns$History" "states" "[LGaugeColumns$Tester;" ∈ wsL_law := wc_3 _ (List.mem_of_getElem? (i := 7) rfl)
theorem wq_3_8 : Cond.methodLink RX2 17 yX4_init ∈ wsL_law := wc_3 _ (List.mem_of_getElem? (i := 8) rfl)
theorem wq_3_9 : Cond.instanceMethod yX5_init ∈ wsL_law := wc_3 _ (List.mem_of_getElem? (i := 9) rfl)
theorem wq_3_10 : Cond.code yX5_init cX5_init 1 none ∈ wsL_law := wc_3 _ (List.mem_of_getElem? (i := 10) rfl)
theorem wq_3_11 : Cond.methodLink RX5 3 objectInit ∈ wsL_law := wc_3 _ (List.mem_of_getElem? (i := 11) rfl)
theorem wq_3_12 : Cond.fieldLink RX5 9 "GaugeColumns$Trial" "readings" "[I" ∈ wsL_law := wc_3 _ (List.mem_of_getElem? (i := 12) rfl)
theorem wq_3_13 : Cond.classLink RX5 15 RX1 ∈ wsL_law := wc_3 _ (List.mem_of_getElem? (i := 13) rfl)
theorem wq_3_14 : Cond.fieldLink RX5 18 "GaugeColumns$Trial" "gauge" "LGaugeColumns$Gauge;" ∈ wsL_law := wc_3 _ (List.mem_of_getElem? (i := 14) rfl)
theorem wq_3_15 : Cond.fieldLink RX5 22 "GaugeColumns$Trial" "sorted" "[I" ∈ wsL_law := wc_3 _ (List.mem_of_getElem? (i := 15) rfl)
theorem wq_3_16 : Cond.fieldLink RX5 25 "GaugeColumns$Trial" "pressures" "[I" ∈ wsL_law := wc_3 _ (List.mem_of_getElem? (i := 16) rfl)
theorem wq_3_17 : Cond.instanceMethod yX3_init ∈ wsL_law := wc_3 _ (List.mem_of_getElem? (i := 17) rfl)
theorem wq_3_18 : Cond.code yX3_init cX3_init 1 none ∈ wsL_law := wc_3 _ (List.mem_of_getElem? (i := 18) rfl)
theorem wq_3_19 : Cond.methodLink RX3 3 objectInit ∈ wsL_law := wc_3 _ (List.mem_of_getElem? (i := 19) rfl)
theorem wq_3_20 : Cond.fieldLink RX3 9 "GaugeColumns$Pad" "numbers" "[I" ∈ wsL_law := wc_3 _ (List.mem_of_getElem? (i := 20) rfl)
theorem wq_3_21 : Cond.arrayClass .char ∈ wsL_law := wc_3 _ (List.mem_of_getElem? (i := 21) rfl)
theorem wq_3_22 : Cond.fieldLink RX3 15 "GaugeColumns$Pad" "signs" "[C" ∈ wsL_law := wc_3 _ (List.mem_of_getElem? (i := 22) rfl)
theorem wq_3_23 : Cond.methodLink RL 12 yX7_init ∈ wsL_law := wc_3 _ (List.mem_of_getElem? (i := 23) rfl)
theorem wq_4_0 : Cond.instanceMethod yX7_init ∈ wsL_law := wc_4 _ (List.mem_of_getElem? (i := 0) rfl)
theorem wq_4_1 : Cond.code yX7_init cX7_init 1 none ∈ wsL_law := wc_4 _ (List.mem_of_getElem? (i := 1) rfl)
theorem wq_4_2 : Cond.methodLink RX7 1 objectInit ∈ wsL_law := wc_4 _ (List.mem_of_getElem? (i := 2) rfl)
theorem wq_4_3 : Cond.fieldLink RX7 7 "GaugeColumnsModel" "state" "[I" ∈ wsL_law := wc_4 _ (List.mem_of_getElem? (i := 3) rfl)
theorem wq_4_4 : Cond.fieldLink RX7 13 "GaugeColumnsModel" "history" "[I" ∈ wsL_law := wc_4 _ (List.mem_of_getElem? (i := 4) rfl)
theorem wq_4_5 : Cond.fieldLink RX7 16 "GaugeColumnsModel" "slots" "[I" ∈ wsL_law := wc_4 _ (List.mem_of_getElem? (i := 5) rfl)
theorem wq_4_6 : Cond.fieldLink RX7 19 "GaugeColumnsModel" "isSaved" "[I" ∈ wsL_law := wc_4 _ (List.mem_of_getElem? (i := 6) rfl)
theorem wq_4_7 : Cond.fieldLink RX7 22 "GaugeColumnsModel" "pad" "[I" ∈ wsL_law := wc_4 _ (List.mem_of_getElem? (i := 7) rfl)
theorem wq_4_8 : Cond.fieldLink RX7 25 "GaugeColumnsModel" "order" "[I" ∈ wsL_law := wc_4 _ (List.mem_of_getElem? (i := 8) rfl)
theorem wq_4_9 : Cond.fieldLink RX7 28 "GaugeColumnsModel" "readings" "[I" ∈ wsL_law := wc_4 _ (List.mem_of_getElem? (i := 9) rfl)
theorem wq_4_10 : Cond.methodLink RL 13 yX6_set ∈ wsL_law := wc_4 _ (List.mem_of_getElem? (i := 10) rfl)
theorem wq_4_11 : Cond.instanceMethod yX6_set ∈ wsL_law := wc_4 _ (List.mem_of_getElem? (i := 11) rfl)
theorem wq_4_12 : Cond.selects RX6 yX6_set yX6_set ∈ wsL_law := wc_4 _ (List.mem_of_getElem? (i := 12) rfl)
theorem wq_4_13 : Cond.code yX6_set cX6_set 3 (some .int) ∈ wsL_law := wc_4 _ (List.mem_of_getElem? (i := 13) rfl)
theorem wq_4_14 : Cond.methodLink RX6 41 yX2_remember ∈ wsL_law := wc_4 _ (List.mem_of_getElem? (i := 14) rfl)
theorem wq_4_15 : Cond.instanceMethod yX2_remember ∈ wsL_law := wc_4 _ (List.mem_of_getElem? (i := 15) rfl)
theorem wq_4_16 : Cond.selects RX2 yX2_remember yX2_remember ∈ wsL_law := wc_4 _ (List.mem_of_getElem? (i := 16) rfl)
theorem wq_4_17 : Cond.code yX2_remember cX2_remember 2 none ∈ wsL_law := wc_4 _ (List.mem_of_getElem? (i := 17) rfl)
theorem wq_4_18 : Cond.fieldLink RX2 18 "GaugeColumns$History" "next" "I" ∈ wsL_law := wc_4 _ (List.mem_of_getElem? (i := 18) rfl)
theorem wq_4_19 : Cond.methodLink RX2 22 yX4_copyFrom ∈ wsL_law := wc_4 _ (List.mem_of_getElem? (i := 19) rfl)
theorem wq_4_20 : Cond.instanceMethod yX4_copyFrom ∈ wsL_law := wc_4 _ (List.mem_of_getElem? (i := 20) rfl)
theorem wq_4_21 : Cond.selects RX4 yX4_copyFrom yX4_copyFrom ∈ wsL_law := wc_4 _ (List.mem_of_getElem? (i := 21) rfl)
theorem wq_4_22 : Cond.code yX4_copyFrom cX4_copyFrom 3 none ∈ wsL_law := wc_4 _ (List.mem_of_getElem? (i := 22) rfl)
theorem wq_4_23 : Cond.methodLink RX4 33 arraycopyName ∈ wsL_law := wc_4 _ (List.mem_of_getElem? (i := 23) rfl)
theorem wq_5_0 : Cond.native arraycopyName ∈ wsL_law := wc_5 _ (List.mem_of_getElem? (i := 0) rfl)
theorem wq_5_1 : Cond.static arraycopyName ∈ wsL_law := wc_5 _ (List.mem_of_getElem? (i := 1) rfl)
theorem wq_5_2 : Cond.initialized "java/lang/System" ∈ wsL_law := wc_5 _ (List.mem_of_getElem? (i := 2) rfl)
theorem wq_5_3 : Cond.fieldLink RX4 43 "GaugeColumns$Tester" "ringCount" "I" ∈ wsL_law := wc_5 _ (List.mem_of_getElem? (i := 3) rfl)
theorem wq_5_4 : Cond.fieldLink RX4 47 "GaugeColumns$Tester" "column" "I" ∈ wsL_law := wc_5 _ (List.mem_of_getElem? (i := 4) rfl)
theorem wq_5_5 : Cond.fieldLink RX4 50 "GaugeColumns$Tester" "gaugeCount" "I" ∈ wsL_law := wc_5 _ (List.mem_of_getElem? (i := 5) rfl)
theorem wq_5_6 : Cond.methodLink RX4 39 yX1_copyFrom ∈ wsL_law := wc_5 _ (List.mem_of_getElem? (i := 6) rfl)
theorem wq_5_7 : Cond.instanceMethod yX1_copyFrom ∈ wsL_law := wc_5 _ (List.mem_of_getElem? (i := 7) rfl)
theorem wq_5_8 : Cond.selects RX1 yX1_copyFrom yX1_copyFrom ∈ wsL_law := wc_5 _ (List.mem_of_getElem? (i := 8) rfl)
theorem wq_5_9 : Cond.code yX1_copyFrom cX1_copyFrom 2 none ∈ wsL_law := wc_5 _ (List.mem_of_getElem? (i := 9) rfl)
theorem wq_5_10 : Cond.fieldLink RX1 9 "GaugeColumns$Gauge" "error" "I" ∈ wsL_law := wc_5 _ (List.mem_of_getElem? (i := 10) rfl)
theorem wq_5_11 : Cond.fieldLink RX1 15 "GaugeColumns$Gauge" "play" "I" ∈ wsL_law := wc_5 _ (List.mem_of_getElem? (i := 11) rfl)
theorem wq_5_12 : Cond.fieldLink RX1 18 "GaugeColumns$Gauge" "step" "I" ∈ wsL_law := wc_5 _ (List.mem_of_getElem? (i := 12) rfl)
theorem wq_5_13 : Cond.fieldLink RX1 21 "GaugeColumns$Gauge" "hand" "I" ∈ wsL_law := wc_5 _ (List.mem_of_getElem? (i := 13) rfl)
theorem wq_5_14 : Cond.fieldLink RX1 24 "GaugeColumns$Gauge" "certificate" "LGaugeColumns$Certificate;" ∈ wsL_law := wc_5 _ (List.mem_of_getElem? (i := 14) rfl)
theorem wq_5_15 : Cond.methodLink RX6 45 yX4_change ∈ wsL_law := wc_5 _ (List.mem_of_getElem? (i := 15) rfl)
theorem wq_5_16 : Cond.instanceMethod yX4_change ∈ wsL_law := wc_5 _ (List.mem_of_getElem? (i := 16) rfl)
theorem wq_5_17 : Cond.selects RX4 yX4_change yX4_change ∈ wsL_law := wc_5 _ (List.mem_of_getElem? (i := 17) rfl)
theorem wq_5_18 : Cond.code yX4_change cX4_change 4 (some .int) ∈ wsL_law := wc_5 _ (List.mem_of_getElem? (i := 18) rfl)
theorem wq_5_19 : Cond.methodLink RX4 59 yX4_voidCertificates ∈ wsL_law := wc_5 _ (List.mem_of_getElem? (i := 19) rfl)
theorem wq_5_20 : Cond.instanceMethod yX4_voidCertificates ∈ wsL_law := wc_5 _ (List.mem_of_getElem? (i := 20) rfl)
theorem wq_5_21 : Cond.selects RX4 yX4_voidCertificates yX4_voidCertificates ∈ wsL_law := wc_5 _ (List.mem_of_getElem? (i := 21) rfl)
theorem wq_5_22 : Cond.code yX4_voidCertificates cX4_voidCertificates 2 none ∈ wsL_law := wc_5 _ (List.mem_of_getElem? (i := 22) rfl)
theorem wq_5_23 : Cond.fieldLink RX4 91 "GaugeColumns$Gauge" "certificate" "LGaugeColumns$Certificate;" ∈ wsL_law := wc_5 _ (List.mem_of_getElem? (i := 23) rfl)
theorem wq_6_0 : Cond.methodLink RX4 62 yX4_moveHands ∈ wsL_law := wc_6 _ (List.mem_of_getElem? (i := 0) rfl)
theorem wq_6_1 : Cond.instanceMethod yX4_moveHands ∈ wsL_law := wc_6 _ (List.mem_of_getElem? (i := 1) rfl)
theorem wq_6_2 : Cond.selects RX4 yX4_moveHands yX4_moveHands ∈ wsL_law := wc_6 _ (List.mem_of_getElem? (i := 2) rfl)
theorem wq_6_3 : Cond.code yX4_moveHands cX4_moveHands 3 (some .int) ∈ wsL_law := wc_6 _ (List.mem_of_getElem? (i := 3) rfl)
theorem wq_6_4 : Cond.methodLink RX4 77 yX4_columnPressure ∈ wsL_law := wc_6 _ (List.mem_of_getElem? (i := 4) rfl)
theorem wq_6_5 : Cond.instanceMethod yX4_columnPressure ∈ wsL_law := wc_6 _ (List.mem_of_getElem? (i := 5) rfl)
theorem wq_6_6 : Cond.selects RX4 yX4_columnPressure yX4_columnPressure ∈ wsL_law := wc_6 _ (List.mem_of_getElem? (i := 6) rfl)
theorem wq_6_7 : Cond.code yX4_columnPressure cX4_columnPressure 1 (some .int) ∈ wsL_law := wc_6 _ (List.mem_of_getElem? (i := 7) rfl)
theorem wq_6_8 : Cond.methodLink RX4 120 yX4_massOf ∈ wsL_law := wc_6 _ (List.mem_of_getElem? (i := 8) rfl)
theorem wq_6_9 : Cond.instanceMethod yX4_massOf ∈ wsL_law := wc_6 _ (List.mem_of_getElem? (i := 9) rfl)
theorem wq_6_10 : Cond.selects RX4 yX4_massOf yX4_massOf ∈ wsL_law := wc_6 _ (List.mem_of_getElem? (i := 10) rfl)
theorem wq_6_11 : Cond.code yX4_massOf cX4_massOf 4 (some .int) ∈ wsL_law := wc_6 _ (List.mem_of_getElem? (i := 11) rfl)
theorem wq_6_12 : Cond.methodLink RX4 124 yX4_pressureOf ∈ wsL_law := wc_6 _ (List.mem_of_getElem? (i := 12) rfl)
theorem wq_6_13 : Cond.instanceMethod yX4_pressureOf ∈ wsL_law := wc_6 _ (List.mem_of_getElem? (i := 13) rfl)
theorem wq_6_14 : Cond.selects RX4 yX4_pressureOf yX4_pressureOf ∈ wsL_law := wc_6 _ (List.mem_of_getElem? (i := 14) rfl)
theorem wq_6_15 : Cond.code yX4_pressureOf cX4_pressureOf 3 (some .int) ∈ wsL_law := wc_6 _ (List.mem_of_getElem? (i := 15) rfl)
theorem wq_6_16 : Cond.static yX6_weightOf ∈ wsL_law := wc_6 _ (List.mem_of_getElem? (i := 16) rfl)
theorem wq_6_17 : Cond.code yX6_weightOf cX6_weightOf 2 (some .int) ∈ wsL_law := wc_6 _ (List.mem_of_getElem? (i := 17) rfl)
theorem wq_6_18 : Cond.constant RX6 203 (100000) ∈ wsL_law := wc_6 _ (List.mem_of_getElem? (i := 18) rfl)
theorem wq_6_19 : Cond.methodLink RX6 204 yX6_dividedRounded ∈ wsL_law := wc_6 _ (List.mem_of_getElem? (i := 19) rfl)
theorem wq_6_20 : Cond.static yX6_dividedRounded ∈ wsL_law := wc_6 _ (List.mem_of_getElem? (i := 20) rfl)
theorem wq_6_21 : Cond.code yX6_dividedRounded cX6_dividedRounded 2 (some .int) ∈ wsL_law := wc_6 _ (List.mem_of_getElem? (i := 21) rfl)
theorem wq_6_22 : Cond.static yX6_dividedDown ∈ wsL_law := wc_6 _ (List.mem_of_getElem? (i := 22) rfl)
theorem wq_6_23 : Cond.code yX6_dividedDown cX6_dividedDown 2 (some .int) ∈ wsL_law := wc_6 _ (List.mem_of_getElem? (i := 23) rfl)
theorem wq_7_0 : Cond.methodLink RX4 80 yX1_follow ∈ wsL_law := wc_7 _ (List.mem_of_getElem? (i := 0) rfl)
theorem wq_7_1 : Cond.instanceMethod yX1_follow ∈ wsL_law := wc_7 _ (List.mem_of_getElem? (i := 1) rfl)
theorem wq_7_2 : Cond.selects RX1 yX1_follow yX1_follow ∈ wsL_law := wc_7 _ (List.mem_of_getElem? (i := 2) rfl)
theorem wq_7_3 : Cond.code yX1_follow cX1_follow 4 none ∈ wsL_law := wc_7 _ (List.mem_of_getElem? (i := 3) rfl)
theorem wq_7_4 : Cond.methodLink RX1 28 Lib.Math.abs.name ∈ wsL_law := wc_7 _ (List.mem_of_getElem? (i := 4) rfl)
theorem wq_7_5 : Cond.static Lib.Math.abs.name ∈ wsL_law := wc_7 _ (List.mem_of_getElem? (i := 5) rfl)
theorem wq_7_6 : Cond.initialized "java/lang/Math" ∈ wsL_law := wc_7 _ (List.mem_of_getElem? (i := 6) rfl)
theorem wq_7_7 : Cond.code Lib.Math.abs.name Lib.Math.abs.code 1 (some .int) ∈ wsL_law := wc_7 _ (List.mem_of_getElem? (i := 7) rfl)
theorem wq_7_8 : Cond.methodLink RX6 49 yX2_settle ∈ wsL_law := wc_7 _ (List.mem_of_getElem? (i := 8) rfl)
theorem wq_7_9 : Cond.instanceMethod yX2_settle ∈ wsL_law := wc_7 _ (List.mem_of_getElem? (i := 9) rfl)
theorem wq_7_10 : Cond.selects RX2 yX2_settle yX2_settle ∈ wsL_law := wc_7 _ (List.mem_of_getElem? (i := 10) rfl)
theorem wq_7_11 : Cond.code yX2_settle cX2_settle 2 (some .int) ∈ wsL_law := wc_7 _ (List.mem_of_getElem? (i := 11) rfl)
theorem wq_7_12 : Cond.fieldLink RX2 26 "GaugeColumns$History" "kept" "I" ∈ wsL_law := wc_7 _ (List.mem_of_getElem? (i := 12) rfl)
theorem wq_7_13 : Cond.methodLink RX2 29 Lib.Math.min.name ∈ wsL_law := wc_7 _ (List.mem_of_getElem? (i := 13) rfl)
theorem wq_7_14 : Cond.static Lib.Math.min.name ∈ wsL_law := wc_7 _ (List.mem_of_getElem? (i := 14) rfl)
theorem wq_7_15 : Cond.code Lib.Math.min.name Lib.Math.min.code 2 (some .int) ∈ wsL_law := wc_7 _ (List.mem_of_getElem? (i := 15) rfl)
theorem wq_7_16 : Cond.methodLink RL 17 yX7_set ∈ wsL_law := wc_7 _ (List.mem_of_getElem? (i := 16) rfl)
theorem wq_7_17 : Cond.instanceMethod yX7_set ∈ wsL_law := wc_7 _ (List.mem_of_getElem? (i := 17) rfl)
theorem wq_7_18 : Cond.selects RX7 yX7_set yX7_set ∈ wsL_law := wc_7 _ (List.mem_of_getElem? (i := 18) rfl)
theorem wq_7_19 : Cond.code yX7_set cX7_set 3 (some .int) ∈ wsL_law := wc_7 _ (List.mem_of_getElem? (i := 19) rfl)
theorem wq_7_20 : Cond.methodLink RX7 103 yX7_isValue ∈ wsL_law := wc_7 _ (List.mem_of_getElem? (i := 20) rfl)
theorem wq_7_21 : Cond.static yX7_isValue ∈ wsL_law := wc_7 _ (List.mem_of_getElem? (i := 21) rfl)
theorem wq_7_22 : Cond.code yX7_isValue cX7_isValue 2 (some .boolean) ∈ wsL_law := wc_7 _ (List.mem_of_getElem? (i := 22) rfl)
theorem wq_7_23 : Cond.methodLink RX7 39 yX7_within ∈ wsL_law := wc_7 _ (List.mem_of_getElem? (i := 23) rfl)
theorem wq_8_0 : Cond.static yX7_within ∈ wsL_law := wc_8 _ (List.mem_of_getElem? (i := 0) rfl)
theorem wq_8_1 : Cond.code yX7_within cX7_within 3 (some .boolean) ∈ wsL_law := wc_8 _ (List.mem_of_getElem? (i := 1) rfl)
theorem wq_8_2 : Cond.methodLink RX7 107 yX7_record ∈ wsL_law := wc_8 _ (List.mem_of_getElem? (i := 2) rfl)
theorem wq_8_3 : Cond.instanceMethod yX7_record ∈ wsL_law := wc_8 _ (List.mem_of_getElem? (i := 3) rfl)
theorem wq_8_4 : Cond.selects RX7 yX7_record yX7_record ∈ wsL_law := wc_8 _ (List.mem_of_getElem? (i := 4) rfl)
theorem wq_8_5 : Cond.code yX7_record cX7_record 2 none ∈ wsL_law := wc_8 _ (List.mem_of_getElem? (i := 5) rfl)
theorem wq_8_6 : Cond.fieldLink RX7 31 "GaugeColumnsModel" "recorded" "I" ∈ wsL_law := wc_8 _ (List.mem_of_getElem? (i := 6) rfl)
theorem wq_8_7 : Cond.methodLink RX7 35 yX7_moves ∈ wsL_law := wc_8 _ (List.mem_of_getElem? (i := 7) rfl)
theorem wq_8_8 : Cond.static yX7_moves ∈ wsL_law := wc_8 _ (List.mem_of_getElem? (i := 8) rfl)
theorem wq_8_9 : Cond.code yX7_moves cX7_moves 5 none ∈ wsL_law := wc_8 _ (List.mem_of_getElem? (i := 9) rfl)
theorem wq_8_10 : Cond.methodLink RX7 110 yX7_sets ∈ wsL_law := wc_8 _ (List.mem_of_getElem? (i := 10) rfl)
theorem wq_8_11 : Cond.instanceMethod yX7_sets ∈ wsL_law := wc_8 _ (List.mem_of_getElem? (i := 11) rfl)
theorem wq_8_12 : Cond.selects RX7 yX7_sets yX7_sets ∈ wsL_law := wc_8 _ (List.mem_of_getElem? (i := 12) rfl)
theorem wq_8_13 : Cond.code yX7_sets cX7_sets 4 (some .int) ∈ wsL_law := wc_8 _ (List.mem_of_getElem? (i := 13) rfl)
theorem wq_8_14 : Cond.methodLink RX7 97 yX7_voidsAll ∈ wsL_law := wc_8 _ (List.mem_of_getElem? (i := 14) rfl)
theorem wq_8_15 : Cond.instanceMethod yX7_voidsAll ∈ wsL_law := wc_8 _ (List.mem_of_getElem? (i := 15) rfl)
theorem wq_8_16 : Cond.selects RX7 yX7_voidsAll yX7_voidsAll ∈ wsL_law := wc_8 _ (List.mem_of_getElem? (i := 16) rfl)
theorem wq_8_17 : Cond.code yX7_voidsAll cX7_voidsAll 2 none ∈ wsL_law := wc_8 _ (List.mem_of_getElem? (i := 17) rfl)
theorem wq_8_18 : Cond.methodLink RX7 82 yX7_voids ∈ wsL_law := wc_8 _ (List.mem_of_getElem? (i := 18) rfl)
theorem wq_8_19 : Cond.instanceMethod yX7_voids ∈ wsL_law := wc_8 _ (List.mem_of_getElem? (i := 19) rfl)
theorem wq_8_20 : Cond.selects RX7 yX7_voids yX7_voids ∈ wsL_law := wc_8 _ (List.mem_of_getElem? (i := 20) rfl)
theorem wq_8_21 : Cond.code yX7_voids cX7_voids 3 none ∈ wsL_law := wc_8 _ (List.mem_of_getElem? (i := 21) rfl)
theorem wq_8_22 : Cond.methodLink RX7 74 yX7_setPart ∈ wsL_law := wc_8 _ (List.mem_of_getElem? (i := 22) rfl)
theorem wq_8_23 : Cond.instanceMethod yX7_setPart ∈ wsL_law := wc_8 _ (List.mem_of_getElem? (i := 23) rfl)
theorem wq_9_0 : Cond.selects RX7 yX7_setPart yX7_setPart ∈ wsL_law := wc_9 _ (List.mem_of_getElem? (i := 0) rfl)
theorem wq_9_1 : Cond.code yX7_setPart cX7_setPart 4 none ∈ wsL_law := wc_9 _ (List.mem_of_getElem? (i := 1) rfl)
theorem wq_9_2 : Cond.methodLink RX7 100 yX7_handsGo ∈ wsL_law := wc_9 _ (List.mem_of_getElem? (i := 2) rfl)
theorem wq_9_3 : Cond.instanceMethod yX7_handsGo ∈ wsL_law := wc_9 _ (List.mem_of_getElem? (i := 3) rfl)
theorem wq_9_4 : Cond.selects RX7 yX7_handsGo yX7_handsGo ∈ wsL_law := wc_9 _ (List.mem_of_getElem? (i := 4) rfl)
theorem wq_9_5 : Cond.code yX7_handsGo cX7_handsGo 2 none ∈ wsL_law := wc_9 _ (List.mem_of_getElem? (i := 5) rfl)
theorem wq_9_6 : Cond.methodLink RX7 78 yX7_handGoes ∈ wsL_law := wc_9 _ (List.mem_of_getElem? (i := 6) rfl)
theorem wq_9_7 : Cond.instanceMethod yX7_handGoes ∈ wsL_law := wc_9 _ (List.mem_of_getElem? (i := 7) rfl)
theorem wq_9_8 : Cond.selects RX7 yX7_handGoes yX7_handGoes ∈ wsL_law := wc_9 _ (List.mem_of_getElem? (i := 8) rfl)
theorem wq_9_9 : Cond.code yX7_handGoes cX7_handGoes 2 none ∈ wsL_law := wc_9 _ (List.mem_of_getElem? (i := 9) rfl)
theorem wq_9_10 : Cond.methodLink RX7 64 yX7_part ∈ wsL_law := wc_9 _ (List.mem_of_getElem? (i := 10) rfl)
theorem wq_9_11 : Cond.instanceMethod yX7_part ∈ wsL_law := wc_9 _ (List.mem_of_getElem? (i := 11) rfl)
theorem wq_9_12 : Cond.selects RX7 yX7_part yX7_part ∈ wsL_law := wc_9 _ (List.mem_of_getElem? (i := 12) rfl)
theorem wq_9_13 : Cond.code yX7_part cX7_part 3 (some .int) ∈ wsL_law := wc_9 _ (List.mem_of_getElem? (i := 13) rfl)
theorem wq_9_14 : Cond.methodLink RX7 67 yX7_pressureOf ∈ wsL_law := wc_9 _ (List.mem_of_getElem? (i := 14) rfl)
theorem wq_9_15 : Cond.instanceMethod yX7_pressureOf ∈ wsL_law := wc_9 _ (List.mem_of_getElem? (i := 15) rfl)
theorem wq_9_16 : Cond.selects RX7 yX7_pressureOf yX7_pressureOf ∈ wsL_law := wc_9 _ (List.mem_of_getElem? (i := 16) rfl)
theorem wq_9_17 : Cond.code yX7_pressureOf cX7_pressureOf 2 (some .int) ∈ wsL_law := wc_9 _ (List.mem_of_getElem? (i := 17) rfl)
theorem wq_9_18 : Cond.methodLink RX7 51 yX7_massOf ∈ wsL_law := wc_9 _ (List.mem_of_getElem? (i := 18) rfl)
theorem wq_9_19 : Cond.instanceMethod yX7_massOf ∈ wsL_law := wc_9 _ (List.mem_of_getElem? (i := 19) rfl)
theorem wq_9_20 : Cond.selects RX7 yX7_massOf yX7_massOf ∈ wsL_law := wc_9 _ (List.mem_of_getElem? (i := 20) rfl)
theorem wq_9_21 : Cond.code yX7_massOf cX7_massOf 4 (some .int) ∈ wsL_law := wc_9 _ (List.mem_of_getElem? (i := 21) rfl)
theorem wq_9_22 : Cond.methodLink RX7 55 yX7_pressureBy ∈ wsL_law := wc_9 _ (List.mem_of_getElem? (i := 22) rfl)
theorem wq_9_23 : Cond.instanceMethod yX7_pressureBy ∈ wsL_law := wc_9 _ (List.mem_of_getElem? (i := 23) rfl)
theorem wq_10_0 : Cond.selects RX7 yX7_pressureBy yX7_pressureBy ∈ wsL_law := wc_10 _ (List.mem_of_getElem? (i := 0) rfl)
theorem wq_10_1 : Cond.code yX7_pressureBy cX7_pressureBy 3 (some .int) ∈ wsL_law := wc_10 _ (List.mem_of_getElem? (i := 1) rfl)
theorem wq_10_2 : Cond.methodLink RX7 48 yX7_weightOf ∈ wsL_law := wc_10 _ (List.mem_of_getElem? (i := 2) rfl)
theorem wq_10_3 : Cond.instanceMethod yX7_weightOf ∈ wsL_law := wc_10 _ (List.mem_of_getElem? (i := 3) rfl)
theorem wq_10_4 : Cond.selects RX7 yX7_weightOf yX7_weightOf ∈ wsL_law := wc_10 _ (List.mem_of_getElem? (i := 4) rfl)
theorem wq_10_5 : Cond.code yX7_weightOf cX7_weightOf 3 (some .int) ∈ wsL_law := wc_10 _ (List.mem_of_getElem? (i := 5) rfl)
theorem wq_10_6 : Cond.constant RX7 43 (100000) ∈ wsL_law := wc_10 _ (List.mem_of_getElem? (i := 6) rfl)
theorem wq_10_7 : Cond.methodLink RX7 44 yX7_rounded ∈ wsL_law := wc_10 _ (List.mem_of_getElem? (i := 7) rfl)
theorem wq_10_8 : Cond.static yX7_rounded ∈ wsL_law := wc_10 _ (List.mem_of_getElem? (i := 8) rfl)
theorem wq_10_9 : Cond.code yX7_rounded cX7_rounded 2 (some .int) ∈ wsL_law := wc_10 _ (List.mem_of_getElem? (i := 9) rfl)
theorem wq_10_10 : Cond.methodLink RX7 70 yX7_goesTo ∈ wsL_law := wc_10 _ (List.mem_of_getElem? (i := 10) rfl)
theorem wq_10_11 : Cond.static yX7_goesTo ∈ wsL_law := wc_10 _ (List.mem_of_getElem? (i := 11) rfl)
theorem wq_10_12 : Cond.code yX7_goesTo cX7_goesTo 5 (some .int) ∈ wsL_law := wc_10 _ (List.mem_of_getElem? (i := 12) rfl)
theorem wq_10_13 : Cond.methodLink RX7 61 yX7_truth ∈ wsL_law := wc_10 _ (List.mem_of_getElem? (i := 13) rfl)
theorem wq_10_14 : Cond.static yX7_truth ∈ wsL_law := wc_10 _ (List.mem_of_getElem? (i := 14) rfl)
theorem wq_10_15 : Cond.code yX7_truth cX7_truth 3 (some .int) ∈ wsL_law := wc_10 _ (List.mem_of_getElem? (i := 15) rfl)
theorem wq_10_16 : Cond.methodLink RX7 58 yX7_size ∈ wsL_law := wc_10 _ (List.mem_of_getElem? (i := 16) rfl)
theorem wq_10_17 : Cond.static yX7_size ∈ wsL_law := wc_10 _ (List.mem_of_getElem? (i := 17) rfl)
theorem wq_10_18 : Cond.code yX7_size cX7_size 1 (some .int) ∈ wsL_law := wc_10 _ (List.mem_of_getElem? (i := 18) rfl)
theorem wq_10_19 : Cond.methodLink RL 18 yX6_ring ∈ wsL_law := wc_10 _ (List.mem_of_getElem? (i := 19) rfl)
theorem wq_10_20 : Cond.instanceMethod yX6_ring ∈ wsL_law := wc_10 _ (List.mem_of_getElem? (i := 20) rfl)
theorem wq_10_21 : Cond.selects RX6 yX6_ring yX6_ring ∈ wsL_law := wc_10 _ (List.mem_of_getElem? (i := 21) rfl)
theorem wq_10_22 : Cond.code yX6_ring cX6_ring 2 (some .int) ∈ wsL_law := wc_10 _ (List.mem_of_getElem? (i := 22) rfl)
theorem wq_10_23 : Cond.methodLink RX6 53 yX4_addRing ∈ wsL_law := wc_10 _ (List.mem_of_getElem? (i := 23) rfl)
theorem wq_11_0 : Cond.instanceMethod yX4_addRing ∈ wsL_law := wc_11 _ (List.mem_of_getElem? (i := 0) rfl)
theorem wq_11_1 : Cond.selects RX4 yX4_addRing yX4_addRing ∈ wsL_law := wc_11 _ (List.mem_of_getElem? (i := 1) rfl)
theorem wq_11_2 : Cond.code yX4_addRing cX4_addRing 2 (some .int) ∈ wsL_law := wc_11 _ (List.mem_of_getElem? (i := 2) rfl)
theorem wq_11_3 : Cond.methodLink RL 22 yX7_ring ∈ wsL_law := wc_11 _ (List.mem_of_getElem? (i := 3) rfl)
theorem wq_11_4 : Cond.instanceMethod yX7_ring ∈ wsL_law := wc_11 _ (List.mem_of_getElem? (i := 4) rfl)
theorem wq_11_5 : Cond.selects RX7 yX7_ring yX7_ring ∈ wsL_law := wc_11 _ (List.mem_of_getElem? (i := 5) rfl)
theorem wq_11_6 : Cond.code yX7_ring cX7_ring 3 (some .int) ∈ wsL_law := wc_11 _ (List.mem_of_getElem? (i := 6) rfl)
theorem wq_11_7 : Cond.methodLink RX7 113 yX7_whyNoRing ∈ wsL_law := wc_11 _ (List.mem_of_getElem? (i := 7) rfl)
theorem wq_11_8 : Cond.instanceMethod yX7_whyNoRing ∈ wsL_law := wc_11 _ (List.mem_of_getElem? (i := 8) rfl)
theorem wq_11_9 : Cond.selects RX7 yX7_whyNoRing yX7_whyNoRing ∈ wsL_law := wc_11 _ (List.mem_of_getElem? (i := 9) rfl)
theorem wq_11_10 : Cond.code yX7_whyNoRing cX7_whyNoRing 2 (some .int) ∈ wsL_law := wc_11 _ (List.mem_of_getElem? (i := 10) rfl)
theorem wq_11_11 : Cond.methodLink RX7 116 yX7_comes ∈ wsL_law := wc_11 _ (List.mem_of_getElem? (i := 11) rfl)
theorem wq_11_12 : Cond.instanceMethod yX7_comes ∈ wsL_law := wc_11 _ (List.mem_of_getElem? (i := 12) rfl)
theorem wq_11_13 : Cond.selects RX7 yX7_comes yX7_comes ∈ wsL_law := wc_11 _ (List.mem_of_getElem? (i := 13) rfl)
theorem wq_11_14 : Cond.code yX7_comes cX7_comes 2 (some .int) ∈ wsL_law := wc_11 _ (List.mem_of_getElem? (i := 14) rfl)
theorem wq_11_15 : Cond.methodLink RL 23 yX6_lose ∈ wsL_law := wc_11 _ (List.mem_of_getElem? (i := 15) rfl)
theorem wq_11_16 : Cond.instanceMethod yX6_lose ∈ wsL_law := wc_11 _ (List.mem_of_getElem? (i := 16) rfl)
theorem wq_11_17 : Cond.selects RX6 yX6_lose yX6_lose ∈ wsL_law := wc_11 _ (List.mem_of_getElem? (i := 17) rfl)
theorem wq_11_18 : Cond.code yX6_lose cX6_lose 1 (some .int) ∈ wsL_law := wc_11 _ (List.mem_of_getElem? (i := 18) rfl)
theorem wq_11_19 : Cond.methodLink RX6 56 yX4_dropRing ∈ wsL_law := wc_11 _ (List.mem_of_getElem? (i := 19) rfl)
theorem wq_11_20 : Cond.instanceMethod yX4_dropRing ∈ wsL_law := wc_11 _ (List.mem_of_getElem? (i := 20) rfl)
theorem wq_11_21 : Cond.selects RX4 yX4_dropRing yX4_dropRing ∈ wsL_law := wc_11 _ (List.mem_of_getElem? (i := 21) rfl)
theorem wq_11_22 : Cond.code yX4_dropRing cX4_dropRing 1 (some .int) ∈ wsL_law := wc_11 _ (List.mem_of_getElem? (i := 22) rfl)
theorem wq_11_23 : Cond.methodLink RL 27 yX7_lose ∈ wsL_law := wc_11 _ (List.mem_of_getElem? (i := 23) rfl)
theorem wq_12_0 : Cond.instanceMethod yX7_lose ∈ wsL_law := wc_12 _ (List.mem_of_getElem? (i := 0) rfl)
theorem wq_12_1 : Cond.selects RX7 yX7_lose yX7_lose ∈ wsL_law := wc_12 _ (List.mem_of_getElem? (i := 1) rfl)
theorem wq_12_2 : Cond.code yX7_lose cX7_lose 3 (some .int) ∈ wsL_law := wc_12 _ (List.mem_of_getElem? (i := 2) rfl)
theorem wq_12_3 : Cond.methodLink RL 28 yX6_stack ∈ wsL_law := wc_12 _ (List.mem_of_getElem? (i := 3) rfl)
theorem wq_12_4 : Cond.instanceMethod yX6_stack ∈ wsL_law := wc_12 _ (List.mem_of_getElem? (i := 4) rfl)
theorem wq_12_5 : Cond.selects RX6 yX6_stack yX6_stack ∈ wsL_law := wc_12 _ (List.mem_of_getElem? (i := 5) rfl)
theorem wq_12_6 : Cond.code yX6_stack cX6_stack 2 (some .int) ∈ wsL_law := wc_12 _ (List.mem_of_getElem? (i := 6) rfl)
theorem wq_12_7 : Cond.methodLink RX6 60 yX4_putOn ∈ wsL_law := wc_12 _ (List.mem_of_getElem? (i := 7) rfl)
theorem wq_12_8 : Cond.instanceMethod yX4_putOn ∈ wsL_law := wc_12 _ (List.mem_of_getElem? (i := 8) rfl)
theorem wq_12_9 : Cond.selects RX4 yX4_putOn yX4_putOn ∈ wsL_law := wc_12 _ (List.mem_of_getElem? (i := 9) rfl)
theorem wq_12_10 : Cond.code yX4_putOn cX4_putOn 2 (some .int) ∈ wsL_law := wc_12 _ (List.mem_of_getElem? (i := 10) rfl)
theorem wq_12_11 : Cond.methodLink RX4 66 yX4_hasRing ∈ wsL_law := wc_12 _ (List.mem_of_getElem? (i := 11) rfl)
theorem wq_12_12 : Cond.instanceMethod yX4_hasRing ∈ wsL_law := wc_12 _ (List.mem_of_getElem? (i := 12) rfl)
theorem wq_12_13 : Cond.selects RX4 yX4_hasRing yX4_hasRing ∈ wsL_law := wc_12 _ (List.mem_of_getElem? (i := 13) rfl)
theorem wq_12_14 : Cond.code yX4_hasRing cX4_hasRing 2 (some .boolean) ∈ wsL_law := wc_12 _ (List.mem_of_getElem? (i := 14) rfl)
theorem wq_12_15 : Cond.methodLink RX4 70 yX4_isStacked ∈ wsL_law := wc_12 _ (List.mem_of_getElem? (i := 15) rfl)
theorem wq_12_16 : Cond.instanceMethod yX4_isStacked ∈ wsL_law := wc_12 _ (List.mem_of_getElem? (i := 16) rfl)
theorem wq_12_17 : Cond.selects RX4 yX4_isStacked yX4_isStacked ∈ wsL_law := wc_12 _ (List.mem_of_getElem? (i := 17) rfl)
theorem wq_12_18 : Cond.code yX4_isStacked cX4_isStacked 2 (some .boolean) ∈ wsL_law := wc_12 _ (List.mem_of_getElem? (i := 18) rfl)
theorem wq_12_19 : Cond.methodLink RL 31 yX7_stack ∈ wsL_law := wc_12 _ (List.mem_of_getElem? (i := 19) rfl)
theorem wq_12_20 : Cond.instanceMethod yX7_stack ∈ wsL_law := wc_12 _ (List.mem_of_getElem? (i := 20) rfl)
theorem wq_12_21 : Cond.selects RX7 yX7_stack yX7_stack ∈ wsL_law := wc_12 _ (List.mem_of_getElem? (i := 21) rfl)
theorem wq_12_22 : Cond.code yX7_stack cX7_stack 3 (some .int) ∈ wsL_law := wc_12 _ (List.mem_of_getElem? (i := 22) rfl)
theorem wq_12_23 : Cond.methodLink RX7 126 yX7_whyNotMoved ∈ wsL_law := wc_12 _ (List.mem_of_getElem? (i := 23) rfl)
theorem wq_13_0 : Cond.instanceMethod yX7_whyNotMoved ∈ wsL_law := wc_13 _ (List.mem_of_getElem? (i := 0) rfl)
theorem wq_13_1 : Cond.selects RX7 yX7_whyNotMoved yX7_whyNotMoved ∈ wsL_law := wc_13 _ (List.mem_of_getElem? (i := 1) rfl)
theorem wq_13_2 : Cond.code yX7_whyNotMoved cX7_whyNotMoved 3 (some .int) ∈ wsL_law := wc_13 _ (List.mem_of_getElem? (i := 2) rfl)
theorem wq_13_3 : Cond.methodLink RX7 119 yX7_isRing ∈ wsL_law := wc_13 _ (List.mem_of_getElem? (i := 3) rfl)
theorem wq_13_4 : Cond.instanceMethod yX7_isRing ∈ wsL_law := wc_13 _ (List.mem_of_getElem? (i := 4) rfl)
theorem wq_13_5 : Cond.selects RX7 yX7_isRing yX7_isRing ∈ wsL_law := wc_13 _ (List.mem_of_getElem? (i := 5) rfl)
theorem wq_13_6 : Cond.code yX7_isRing cX7_isRing 2 (some .boolean) ∈ wsL_law := wc_13 _ (List.mem_of_getElem? (i := 6) rfl)
theorem wq_13_7 : Cond.methodLink RX7 123 yX7_isStacked ∈ wsL_law := wc_13 _ (List.mem_of_getElem? (i := 7) rfl)
theorem wq_13_8 : Cond.instanceMethod yX7_isStacked ∈ wsL_law := wc_13 _ (List.mem_of_getElem? (i := 8) rfl)
theorem wq_13_9 : Cond.selects RX7 yX7_isStacked yX7_isStacked ∈ wsL_law := wc_13 _ (List.mem_of_getElem? (i := 9) rfl)
theorem wq_13_10 : Cond.code yX7_isStacked cX7_isStacked 2 (some .boolean) ∈ wsL_law := wc_13 _ (List.mem_of_getElem? (i := 10) rfl)
theorem wq_13_11 : Cond.methodLink RX7 130 yX7_isMoved ∈ wsL_law := wc_13 _ (List.mem_of_getElem? (i := 11) rfl)
theorem wq_13_12 : Cond.instanceMethod yX7_isMoved ∈ wsL_law := wc_13 _ (List.mem_of_getElem? (i := 12) rfl)
theorem wq_13_13 : Cond.selects RX7 yX7_isMoved yX7_isMoved ∈ wsL_law := wc_13 _ (List.mem_of_getElem? (i := 13) rfl)
theorem wq_13_14 : Cond.code yX7_isMoved cX7_isMoved 2 (some .int) ∈ wsL_law := wc_13 _ (List.mem_of_getElem? (i := 14) rfl)
theorem wq_13_15 : Cond.methodLink RL 32 yX6_take ∈ wsL_law := wc_13 _ (List.mem_of_getElem? (i := 15) rfl)
theorem wq_13_16 : Cond.instanceMethod yX6_take ∈ wsL_law := wc_13 _ (List.mem_of_getElem? (i := 16) rfl)
theorem wq_13_17 : Cond.selects RX6 yX6_take yX6_take ∈ wsL_law := wc_13 _ (List.mem_of_getElem? (i := 17) rfl)
theorem wq_13_18 : Cond.code yX6_take cX6_take 2 (some .int) ∈ wsL_law := wc_13 _ (List.mem_of_getElem? (i := 18) rfl)
theorem wq_13_19 : Cond.methodLink RX6 63 yX4_takeOff ∈ wsL_law := wc_13 _ (List.mem_of_getElem? (i := 19) rfl)
theorem wq_13_20 : Cond.instanceMethod yX4_takeOff ∈ wsL_law := wc_13 _ (List.mem_of_getElem? (i := 20) rfl)
theorem wq_13_21 : Cond.selects RX4 yX4_takeOff yX4_takeOff ∈ wsL_law := wc_13 _ (List.mem_of_getElem? (i := 21) rfl)
theorem wq_13_22 : Cond.code yX4_takeOff cX4_takeOff 2 (some .int) ∈ wsL_law := wc_13 _ (List.mem_of_getElem? (i := 22) rfl)
theorem wq_13_23 : Cond.methodLink RL 35 yX7_take ∈ wsL_law := wc_13 _ (List.mem_of_getElem? (i := 23) rfl)
theorem wq_14_0 : Cond.instanceMethod yX7_take ∈ wsL_law := wc_14 _ (List.mem_of_getElem? (i := 0) rfl)
theorem wq_14_1 : Cond.selects RX7 yX7_take yX7_take ∈ wsL_law := wc_14 _ (List.mem_of_getElem? (i := 1) rfl)
theorem wq_14_2 : Cond.code yX7_take cX7_take 3 (some .int) ∈ wsL_law := wc_14 _ (List.mem_of_getElem? (i := 2) rfl)
theorem wq_14_3 : Cond.methodLink RL 36 yX6_gauge ∈ wsL_law := wc_14 _ (List.mem_of_getElem? (i := 3) rfl)
theorem wq_14_4 : Cond.instanceMethod yX6_gauge ∈ wsL_law := wc_14 _ (List.mem_of_getElem? (i := 4) rfl)
theorem wq_14_5 : Cond.selects RX6 yX6_gauge yX6_gauge ∈ wsL_law := wc_14 _ (List.mem_of_getElem? (i := 5) rfl)
theorem wq_14_6 : Cond.code yX6_gauge cX6_gauge 4 (some .int) ∈ wsL_law := wc_14 _ (List.mem_of_getElem? (i := 6) rfl)
theorem wq_14_7 : Cond.methodLink RX6 66 yX4_addGauge ∈ wsL_law := wc_14 _ (List.mem_of_getElem? (i := 7) rfl)
theorem wq_14_8 : Cond.instanceMethod yX4_addGauge ∈ wsL_law := wc_14 _ (List.mem_of_getElem? (i := 8) rfl)
theorem wq_14_9 : Cond.selects RX4 yX4_addGauge yX4_addGauge ∈ wsL_law := wc_14 _ (List.mem_of_getElem? (i := 9) rfl)
theorem wq_14_10 : Cond.code yX4_addGauge cX4_addGauge 4 (some .int) ∈ wsL_law := wc_14 _ (List.mem_of_getElem? (i := 10) rfl)
theorem wq_14_11 : Cond.methodLink RX4 73 yX1_begin ∈ wsL_law := wc_14 _ (List.mem_of_getElem? (i := 11) rfl)
theorem wq_14_12 : Cond.instanceMethod yX1_begin ∈ wsL_law := wc_14 _ (List.mem_of_getElem? (i := 12) rfl)
theorem wq_14_13 : Cond.selects RX1 yX1_begin yX1_begin ∈ wsL_law := wc_14 _ (List.mem_of_getElem? (i := 13) rfl)
theorem wq_14_14 : Cond.code yX1_begin cX1_begin 4 none ∈ wsL_law := wc_14 _ (List.mem_of_getElem? (i := 14) rfl)
theorem wq_14_15 : Cond.methodLink RL 40 yX7_gauge ∈ wsL_law := wc_14 _ (List.mem_of_getElem? (i := 15) rfl)
theorem wq_14_16 : Cond.instanceMethod yX7_gauge ∈ wsL_law := wc_14 _ (List.mem_of_getElem? (i := 16) rfl)
theorem wq_14_17 : Cond.selects RX7 yX7_gauge yX7_gauge ∈ wsL_law := wc_14 _ (List.mem_of_getElem? (i := 17) rfl)
theorem wq_14_18 : Cond.code yX7_gauge cX7_gauge 5 (some .int) ∈ wsL_law := wc_14 _ (List.mem_of_getElem? (i := 18) rfl)
theorem wq_14_19 : Cond.methodLink RX7 136 yX7_whyNoGauge ∈ wsL_law := wc_14 _ (List.mem_of_getElem? (i := 19) rfl)
theorem wq_14_20 : Cond.instanceMethod yX7_whyNoGauge ∈ wsL_law := wc_14 _ (List.mem_of_getElem? (i := 20) rfl)
theorem wq_14_21 : Cond.selects RX7 yX7_whyNoGauge yX7_whyNoGauge ∈ wsL_law := wc_14 _ (List.mem_of_getElem? (i := 21) rfl)
theorem wq_14_22 : Cond.code yX7_whyNoGauge cX7_whyNoGauge 4 (some .int) ∈ wsL_law := wc_14 _ (List.mem_of_getElem? (i := 22) rfl)
theorem wq_14_23 : Cond.methodLink RX7 133 yX7_isError ∈ wsL_law := wc_14 _ (List.mem_of_getElem? (i := 23) rfl)
theorem wq_15_0 : Cond.static yX7_isError ∈ wsL_law := wc_15 _ (List.mem_of_getElem? (i := 0) rfl)
theorem wq_15_1 : Cond.code yX7_isError cX7_isError 1 (some .boolean) ∈ wsL_law := wc_15 _ (List.mem_of_getElem? (i := 1) rfl)
theorem wq_15_2 : Cond.methodLink RX7 140 yX7_comesGauge ∈ wsL_law := wc_15 _ (List.mem_of_getElem? (i := 2) rfl)
theorem wq_15_3 : Cond.instanceMethod yX7_comesGauge ∈ wsL_law := wc_15 _ (List.mem_of_getElem? (i := 3) rfl)
theorem wq_15_4 : Cond.selects RX7 yX7_comesGauge yX7_comesGauge ∈ wsL_law := wc_15 _ (List.mem_of_getElem? (i := 4) rfl)
theorem wq_15_5 : Cond.code yX7_comesGauge cX7_comesGauge 6 (some .int) ∈ wsL_law := wc_15 _ (List.mem_of_getElem? (i := 5) rfl)
theorem wq_15_6 : Cond.methodLink RL 41 yX6_tune ∈ wsL_law := wc_15 _ (List.mem_of_getElem? (i := 6) rfl)
theorem wq_15_7 : Cond.instanceMethod yX6_tune ∈ wsL_law := wc_15 _ (List.mem_of_getElem? (i := 7) rfl)
theorem wq_15_8 : Cond.selects RX6 yX6_tune yX6_tune ∈ wsL_law := wc_15 _ (List.mem_of_getElem? (i := 8) rfl)
theorem wq_15_9 : Cond.code yX6_tune cX6_tune 3 (some .int) ∈ wsL_law := wc_15 _ (List.mem_of_getElem? (i := 9) rfl)
theorem wq_15_10 : Cond.methodLink RX6 70 yX4_adjust ∈ wsL_law := wc_15 _ (List.mem_of_getElem? (i := 10) rfl)
theorem wq_15_11 : Cond.instanceMethod yX4_adjust ∈ wsL_law := wc_15 _ (List.mem_of_getElem? (i := 11) rfl)
theorem wq_15_12 : Cond.selects RX4 yX4_adjust yX4_adjust ∈ wsL_law := wc_15 _ (List.mem_of_getElem? (i := 12) rfl)
theorem wq_15_13 : Cond.code yX4_adjust cX4_adjust 5 (some .int) ∈ wsL_law := wc_15 _ (List.mem_of_getElem? (i := 13) rfl)
theorem wq_15_14 : Cond.fieldLink RX4 88 "GaugeColumns$Gauge" "error" "I" ∈ wsL_law := wc_15 _ (List.mem_of_getElem? (i := 14) rfl)
theorem wq_15_15 : Cond.methodLink RX4 84 yX4_gaugeAt ∈ wsL_law := wc_15 _ (List.mem_of_getElem? (i := 15) rfl)
theorem wq_15_16 : Cond.instanceMethod yX4_gaugeAt ∈ wsL_law := wc_15 _ (List.mem_of_getElem? (i := 16) rfl)
theorem wq_15_17 : Cond.selects RX4 yX4_gaugeAt yX4_gaugeAt ∈ wsL_law := wc_15 _ (List.mem_of_getElem? (i := 17) rfl)
theorem wq_15_18 : Cond.code yX4_gaugeAt cX4_gaugeAt 2 (some (.object "GaugeColumns$Gauge")) ∈ wsL_law := wc_15 _ (List.mem_of_getElem? (i := 18) rfl)
theorem wq_15_19 : Cond.methodLink RL 44 yX7_tune ∈ wsL_law := wc_15 _ (List.mem_of_getElem? (i := 19) rfl)
theorem wq_15_20 : Cond.instanceMethod yX7_tune ∈ wsL_law := wc_15 _ (List.mem_of_getElem? (i := 20) rfl)
theorem wq_15_21 : Cond.selects RX7 yX7_tune yX7_tune ∈ wsL_law := wc_15 _ (List.mem_of_getElem? (i := 21) rfl)
theorem wq_15_22 : Cond.code yX7_tune cX7_tune 4 (some .int) ∈ wsL_law := wc_15 _ (List.mem_of_getElem? (i := 22) rfl)
theorem wq_15_23 : Cond.methodLink RX7 143 yX7_isGauge ∈ wsL_law := wc_15 _ (List.mem_of_getElem? (i := 23) rfl)
theorem wq_16_0 : Cond.instanceMethod yX7_isGauge ∈ wsL_law := wc_16 _ (List.mem_of_getElem? (i := 0) rfl)
theorem wq_16_1 : Cond.selects RX7 yX7_isGauge yX7_isGauge ∈ wsL_law := wc_16 _ (List.mem_of_getElem? (i := 1) rfl)
theorem wq_16_2 : Cond.code yX7_isGauge cX7_isGauge 2 (some .boolean) ∈ wsL_law := wc_16 _ (List.mem_of_getElem? (i := 2) rfl)
theorem wq_16_3 : Cond.methodLink RL 45 yX6_certify ∈ wsL_law := wc_16 _ (List.mem_of_getElem? (i := 3) rfl)
theorem wq_16_4 : Cond.instanceMethod yX6_certify ∈ wsL_law := wc_16 _ (List.mem_of_getElem? (i := 4) rfl)
theorem wq_16_5 : Cond.selects RX6 yX6_certify yX6_certify ∈ wsL_law := wc_16 _ (List.mem_of_getElem? (i := 5) rfl)
theorem wq_16_6 : Cond.code yX6_certify cX6_certify 2 (some .int) ∈ wsL_law := wc_16 _ (List.mem_of_getElem? (i := 6) rfl)
theorem wq_16_7 : Cond.methodLink RX6 73 yX4_certifyBy ∈ wsL_law := wc_16 _ (List.mem_of_getElem? (i := 7) rfl)
theorem wq_16_8 : Cond.instanceMethod yX4_certifyBy ∈ wsL_law := wc_16 _ (List.mem_of_getElem? (i := 8) rfl)
theorem wq_16_9 : Cond.selects RX4 yX4_certifyBy yX4_certifyBy ∈ wsL_law := wc_16 _ (List.mem_of_getElem? (i := 9) rfl)
theorem wq_16_10 : Cond.code yX4_certifyBy cX4_certifyBy 4 (some .int) ∈ wsL_law := wc_16 _ (List.mem_of_getElem? (i := 10) rfl)
theorem wq_16_11 : Cond.fieldLink RX4 105 "GaugeColumns$Trial" "greatest" "I" ∈ wsL_law := wc_16 _ (List.mem_of_getElem? (i := 11) rfl)
theorem wq_16_12 : Cond.classLink RX4 108 RX0 ∈ wsL_law := wc_16 _ (List.mem_of_getElem? (i := 12) rfl)
theorem wq_16_13 : Cond.instantiable RX0 3 ∈ wsL_law := wc_16 _ (List.mem_of_getElem? (i := 13) rfl)
theorem wq_16_14 : Cond.initialized RX0 ∈ wsL_law := wc_16 _ (List.mem_of_getElem? (i := 14) rfl)
theorem wq_16_15 : Cond.methodLink RX4 95 yX5_prepare ∈ wsL_law := wc_16 _ (List.mem_of_getElem? (i := 15) rfl)
theorem wq_16_16 : Cond.instanceMethod yX5_prepare ∈ wsL_law := wc_16 _ (List.mem_of_getElem? (i := 16) rfl)
theorem wq_16_17 : Cond.selects RX5 yX5_prepare yX5_prepare ∈ wsL_law := wc_16 _ (List.mem_of_getElem? (i := 17) rfl)
theorem wq_16_18 : Cond.code yX5_prepare cX5_prepare 5 none ∈ wsL_law := wc_16 _ (List.mem_of_getElem? (i := 18) rfl)
theorem wq_16_19 : Cond.fieldLink RX5 28 "GaugeColumns$Tester" "ringCount" "I" ∈ wsL_law := wc_16 _ (List.mem_of_getElem? (i := 19) rfl)
theorem wq_16_20 : Cond.fieldLink RX5 38 "GaugeColumns$Tester" "grams" "[I" ∈ wsL_law := wc_16 _ (List.mem_of_getElem? (i := 20) rfl)
theorem wq_16_21 : Cond.fieldLink RX5 41 "GaugeColumns$Tester" "settings" "[I" ∈ wsL_law := wc_16 _ (List.mem_of_getElem? (i := 21) rfl)
theorem wq_16_22 : Cond.fieldLink RX5 48 "GaugeColumns$Trial" "length" "I" ∈ wsL_law := wc_16 _ (List.mem_of_getElem? (i := 22) rfl)
theorem wq_16_23 : Cond.methodLink RX5 34 yX4_placeOf ∈ wsL_law := wc_16 _ (List.mem_of_getElem? (i := 23) rfl)
theorem wq_17_0 : Cond.instanceMethod yX4_placeOf ∈ wsL_law := wc_17 _ (List.mem_of_getElem? (i := 0) rfl)
theorem wq_17_1 : Cond.selects RX4 yX4_placeOf yX4_placeOf ∈ wsL_law := wc_17 _ (List.mem_of_getElem? (i := 1) rfl)
theorem wq_17_2 : Cond.code yX4_placeOf cX4_placeOf 4 (some .int) ∈ wsL_law := wc_17 _ (List.mem_of_getElem? (i := 2) rfl)
theorem wq_17_3 : Cond.methodLink RX5 44 yX4_pressureOf ∈ wsL_law := wc_17 _ (List.mem_of_getElem? (i := 3) rfl)
theorem wq_17_4 : Cond.methodLink RX4 101 yX5_run ∈ wsL_law := wc_17 _ (List.mem_of_getElem? (i := 4) rfl)
theorem wq_17_5 : Cond.instanceMethod yX5_run ∈ wsL_law := wc_17 _ (List.mem_of_getElem? (i := 5) rfl)
theorem wq_17_6 : Cond.selects RX5 yX5_run yX5_run ∈ wsL_law := wc_17 _ (List.mem_of_getElem? (i := 6) rfl)
theorem wq_17_7 : Cond.code yX5_run cX5_run 6 none ∈ wsL_law := wc_17 _ (List.mem_of_getElem? (i := 7) rfl)
theorem wq_17_8 : Cond.fieldLink RX5 51 "GaugeColumns$Gauge" "play" "I" ∈ wsL_law := wc_17 _ (List.mem_of_getElem? (i := 8) rfl)
theorem wq_17_9 : Cond.fieldLink RX5 54 "GaugeColumns$Gauge" "step" "I" ∈ wsL_law := wc_17 _ (List.mem_of_getElem? (i := 9) rfl)
theorem wq_17_10 : Cond.fieldLink RX5 61 "GaugeColumns$Trial" "greatest" "I" ∈ wsL_law := wc_17 _ (List.mem_of_getElem? (i := 10) rfl)
theorem wq_17_11 : Cond.fieldLink RX5 64 "GaugeColumns$Trial" "worst" "I" ∈ wsL_law := wc_17 _ (List.mem_of_getElem? (i := 11) rfl)
theorem wq_17_12 : Cond.methodLink RX5 75 Lib.Math.abs.name ∈ wsL_law := wc_17 _ (List.mem_of_getElem? (i := 12) rfl)
theorem wq_17_13 : Cond.methodLink RX5 57 yX1_begin ∈ wsL_law := wc_17 _ (List.mem_of_getElem? (i := 13) rfl)
theorem wq_17_14 : Cond.methodLink RX5 67 yX1_follow ∈ wsL_law := wc_17 _ (List.mem_of_getElem? (i := 14) rfl)
theorem wq_17_15 : Cond.methodLink RX5 71 yX1_shown ∈ wsL_law := wc_17 _ (List.mem_of_getElem? (i := 15) rfl)
theorem wq_17_16 : Cond.instanceMethod yX1_shown ∈ wsL_law := wc_17 _ (List.mem_of_getElem? (i := 16) rfl)
theorem wq_17_17 : Cond.selects RX1 yX1_shown yX1_shown ∈ wsL_law := wc_17 _ (List.mem_of_getElem? (i := 17) rfl)
theorem wq_17_18 : Cond.code yX1_shown cX1_shown 1 (some .int) ∈ wsL_law := wc_17 _ (List.mem_of_getElem? (i := 18) rfl)
theorem wq_17_19 : Cond.methodLink RX4 110 yX0_init ∈ wsL_law := wc_17 _ (List.mem_of_getElem? (i := 19) rfl)
theorem wq_17_20 : Cond.instanceMethod yX0_init ∈ wsL_law := wc_17 _ (List.mem_of_getElem? (i := 20) rfl)
theorem wq_17_21 : Cond.code yX0_init cX0_init 3 none ∈ wsL_law := wc_17 _ (List.mem_of_getElem? (i := 21) rfl)
theorem wq_17_22 : Cond.methodLink RX0 1 objectInit ∈ wsL_law := wc_17 _ (List.mem_of_getElem? (i := 22) rfl)
theorem wq_17_23 : Cond.fieldLink RX0 7 "GaugeColumns$Trial" "readings" "[I" ∈ wsL_law := wc_17 _ (List.mem_of_getElem? (i := 23) rfl)
theorem wq_18_0 : Cond.fieldLink RX0 13 "GaugeColumns$Trial" "length" "I" ∈ wsL_law := wc_18 _ (List.mem_of_getElem? (i := 0) rfl)
theorem wq_18_1 : Cond.fieldLink RX0 23 "GaugeColumns$Certificate" "readings" "[I" ∈ wsL_law := wc_18 _ (List.mem_of_getElem? (i := 1) rfl)
theorem wq_18_2 : Cond.fieldLink RX0 26 "GaugeColumns$Trial" "greatest" "I" ∈ wsL_law := wc_18 _ (List.mem_of_getElem? (i := 2) rfl)
theorem wq_18_3 : Cond.fieldLink RX0 29 "GaugeColumns$Certificate" "greatest" "I" ∈ wsL_law := wc_18 _ (List.mem_of_getElem? (i := 3) rfl)
theorem wq_18_4 : Cond.fieldLink RX0 30 "GaugeColumns$Certificate" "air" "I" ∈ wsL_law := wc_18 _ (List.mem_of_getElem? (i := 4) rfl)
theorem wq_18_5 : Cond.methodLink RX0 17 yJ7_copyOf_59c91 ∈ wsL_law := wc_18 _ (List.mem_of_getElem? (i := 5) rfl)
theorem wq_18_6 : Cond.static yJ7_copyOf_59c91 ∈ wsL_law := wc_18 _ (List.mem_of_getElem? (i := 6) rfl)
theorem wq_18_7 : Cond.initialized RJ7 ∈ wsL_law := wc_18 _ (List.mem_of_getElem? (i := 7) rfl)
theorem wq_18_8 : Cond.code yJ7_copyOf_59c91 cJ7_copyOf_59c91 3 (some (.array .int)) ∈ wsL_law := wc_18 _ (List.mem_of_getElem? (i := 8) rfl)
theorem wq_18_9 : Cond.methodLink RJ7 316 ⟨"[I", "clone", "()Ljava/lang/Object;"⟩ ∈ wsL_law := wc_18 _ (List.mem_of_getElem? (i := 9) rfl)
theorem wq_18_10 : Cond.classLink RJ7 317 "[I" ∈ wsL_law := wc_18 _ (List.mem_of_getElem? (i := 10) rfl)
theorem wq_18_11 : Cond.methodLink RJ7 304 Lib.Math.min.name ∈ wsL_law := wc_18 _ (List.mem_of_getElem? (i := 11) rfl)
theorem wq_18_12 : Cond.methodLink RJ7 150 arraycopyName ∈ wsL_law := wc_18 _ (List.mem_of_getElem? (i := 12) rfl)
theorem wq_18_13 : Cond.methodLink RL 48 yX7_certify ∈ wsL_law := wc_18 _ (List.mem_of_getElem? (i := 13) rfl)
theorem wq_18_14 : Cond.instanceMethod yX7_certify ∈ wsL_law := wc_18 _ (List.mem_of_getElem? (i := 14) rfl)
theorem wq_18_15 : Cond.selects RX7 yX7_certify yX7_certify ∈ wsL_law := wc_18 _ (List.mem_of_getElem? (i := 15) rfl)
theorem wq_18_16 : Cond.code yX7_certify cX7_certify 3 (some .int) ∈ wsL_law := wc_18 _ (List.mem_of_getElem? (i := 16) rfl)
theorem wq_18_17 : Cond.methodLink RX7 150 yX7_whyNotCertified ∈ wsL_law := wc_18 _ (List.mem_of_getElem? (i := 17) rfl)
theorem wq_18_18 : Cond.instanceMethod yX7_whyNotCertified ∈ wsL_law := wc_18 _ (List.mem_of_getElem? (i := 18) rfl)
theorem wq_18_19 : Cond.selects RX7 yX7_whyNotCertified yX7_whyNotCertified ∈ wsL_law := wc_18 _ (List.mem_of_getElem? (i := 19) rfl)
theorem wq_18_20 : Cond.code yX7_whyNotCertified cX7_whyNotCertified 2 (some .int) ∈ wsL_law := wc_18 _ (List.mem_of_getElem? (i := 20) rfl)
theorem wq_18_21 : Cond.methodLink RX7 153 yX7_certifies ∈ wsL_law := wc_18 _ (List.mem_of_getElem? (i := 21) rfl)
theorem wq_18_22 : Cond.instanceMethod yX7_certifies ∈ wsL_law := wc_18 _ (List.mem_of_getElem? (i := 22) rfl)
theorem wq_18_23 : Cond.selects RX7 yX7_certifies yX7_certifies ∈ wsL_law := wc_18 _ (List.mem_of_getElem? (i := 23) rfl)
theorem wq_19_0 : Cond.code yX7_certifies cX7_certifies 3 (some .int) ∈ wsL_law := wc_19 _ (List.mem_of_getElem? (i := 0) rfl)
theorem wq_19_1 : Cond.fieldLink RX7 85 "GaugeColumnsModel" "greatest" "I" ∈ wsL_law := wc_19 _ (List.mem_of_getElem? (i := 1) rfl)
theorem wq_19_2 : Cond.methodLink RX7 146 yX7_tests ∈ wsL_law := wc_19 _ (List.mem_of_getElem? (i := 2) rfl)
theorem wq_19_3 : Cond.instanceMethod yX7_tests ∈ wsL_law := wc_19 _ (List.mem_of_getElem? (i := 3) rfl)
theorem wq_19_4 : Cond.selects RX7 yX7_tests yX7_tests ∈ wsL_law := wc_19 _ (List.mem_of_getElem? (i := 4) rfl)
theorem wq_19_5 : Cond.code yX7_tests cX7_tests 10 none ∈ wsL_law := wc_19 _ (List.mem_of_getElem? (i := 5) rfl)
theorem wq_19_6 : Cond.fieldLink RX7 88 "GaugeColumnsModel" "placeOfGreatest" "I" ∈ wsL_law := wc_19 _ (List.mem_of_getElem? (i := 6) rfl)
theorem wq_19_7 : Cond.methodLink RX7 91 yX7_findOrder ∈ wsL_law := wc_19 _ (List.mem_of_getElem? (i := 7) rfl)
theorem wq_19_8 : Cond.instanceMethod yX7_findOrder ∈ wsL_law := wc_19 _ (List.mem_of_getElem? (i := 8) rfl)
theorem wq_19_9 : Cond.selects RX7 yX7_findOrder yX7_findOrder ∈ wsL_law := wc_19 _ (List.mem_of_getElem? (i := 9) rfl)
theorem wq_19_10 : Cond.code yX7_findOrder cX7_findOrder 3 none ∈ wsL_law := wc_19 _ (List.mem_of_getElem? (i := 10) rfl)
theorem wq_19_11 : Cond.methodLink RX7 94 yX7_reads ∈ wsL_law := wc_19 _ (List.mem_of_getElem? (i := 11) rfl)
theorem wq_19_12 : Cond.static yX7_reads ∈ wsL_law := wc_19 _ (List.mem_of_getElem? (i := 12) rfl)
theorem wq_19_13 : Cond.code yX7_reads cX7_reads 2 (some .int) ∈ wsL_law := wc_19 _ (List.mem_of_getElem? (i := 13) rfl)
theorem wq_19_14 : Cond.methodLink RL 49 yX6_ofRing ∈ wsL_law := wc_19 _ (List.mem_of_getElem? (i := 14) rfl)
theorem wq_19_15 : Cond.instanceMethod yX6_ofRing ∈ wsL_law := wc_19 _ (List.mem_of_getElem? (i := 15) rfl)
theorem wq_19_16 : Cond.selects RX6 yX6_ofRing yX6_ofRing ∈ wsL_law := wc_19 _ (List.mem_of_getElem? (i := 16) rfl)
theorem wq_19_17 : Cond.code yX6_ofRing cX6_ofRing 3 (some .int) ∈ wsL_law := wc_19 _ (List.mem_of_getElem? (i := 17) rfl)
theorem wq_19_18 : Cond.fieldLink RX6 81 "GaugeColumns$Tester" "grams" "[I" ∈ wsL_law := wc_19 _ (List.mem_of_getElem? (i := 18) rfl)
theorem wq_19_19 : Cond.methodLink RX6 77 yX4_hasRing ∈ wsL_law := wc_19 _ (List.mem_of_getElem? (i := 19) rfl)
theorem wq_19_20 : Cond.methodLink RX6 85 yX4_isStacked ∈ wsL_law := wc_19 _ (List.mem_of_getElem? (i := 20) rfl)
theorem wq_19_21 : Cond.methodLink RX6 88 yX4_placeOf ∈ wsL_law := wc_19 _ (List.mem_of_getElem? (i := 21) rfl)
theorem wq_19_22 : Cond.methodLink RL 52 yX7_ofRing ∈ wsL_law := wc_19 _ (List.mem_of_getElem? (i := 22) rfl)
theorem wq_19_23 : Cond.instanceMethod yX7_ofRing ∈ wsL_law := wc_19 _ (List.mem_of_getElem? (i := 23) rfl)
theorem wq_20_0 : Cond.selects RX7 yX7_ofRing yX7_ofRing ∈ wsL_law := wc_20 _ (List.mem_of_getElem? (i := 0) rfl)
theorem wq_20_1 : Cond.code yX7_ofRing cX7_ofRing 3 (some .int) ∈ wsL_law := wc_20 _ (List.mem_of_getElem? (i := 1) rfl)
theorem wq_20_2 : Cond.methodLink RX7 156 yX7_placeOf ∈ wsL_law := wc_20 _ (List.mem_of_getElem? (i := 2) rfl)
theorem wq_20_3 : Cond.instanceMethod yX7_placeOf ∈ wsL_law := wc_20 _ (List.mem_of_getElem? (i := 3) rfl)
theorem wq_20_4 : Cond.selects RX7 yX7_placeOf yX7_placeOf ∈ wsL_law := wc_20 _ (List.mem_of_getElem? (i := 4) rfl)
theorem wq_20_5 : Cond.code yX7_placeOf cX7_placeOf 4 (some .int) ∈ wsL_law := wc_20 _ (List.mem_of_getElem? (i := 5) rfl)
theorem wq_20_6 : Cond.methodLink RL 53 yX6_ofGauge ∈ wsL_law := wc_20 _ (List.mem_of_getElem? (i := 6) rfl)
theorem wq_20_7 : Cond.instanceMethod yX6_ofGauge ∈ wsL_law := wc_20 _ (List.mem_of_getElem? (i := 7) rfl)
theorem wq_20_8 : Cond.selects RX6 yX6_ofGauge yX6_ofGauge ∈ wsL_law := wc_20 _ (List.mem_of_getElem? (i := 8) rfl)
theorem wq_20_9 : Cond.code yX6_ofGauge cX6_ofGauge 4 (some .int) ∈ wsL_law := wc_20 _ (List.mem_of_getElem? (i := 9) rfl)
theorem wq_20_10 : Cond.methodLink RX6 91 yX4_gaugeAt ∈ wsL_law := wc_20 _ (List.mem_of_getElem? (i := 10) rfl)
theorem wq_20_11 : Cond.methodLink RX6 95 yX1_tell ∈ wsL_law := wc_20 _ (List.mem_of_getElem? (i := 11) rfl)
theorem wq_20_12 : Cond.instanceMethod yX1_tell ∈ wsL_law := wc_20 _ (List.mem_of_getElem? (i := 12) rfl)
theorem wq_20_13 : Cond.selects RX1 yX1_tell yX1_tell ∈ wsL_law := wc_20 _ (List.mem_of_getElem? (i := 13) rfl)
theorem wq_20_14 : Cond.code yX1_tell cX1_tell 2 (some .int) ∈ wsL_law := wc_20 _ (List.mem_of_getElem? (i := 14) rfl)
theorem wq_20_15 : Cond.fieldLink RX1 45 "GaugeColumns$Certificate" "greatest" "I" ∈ wsL_law := wc_20 _ (List.mem_of_getElem? (i := 15) rfl)
theorem wq_20_16 : Cond.fieldLink RX1 50 "GaugeColumns$Certificate" "air" "I" ∈ wsL_law := wc_20 _ (List.mem_of_getElem? (i := 16) rfl)
theorem wq_20_17 : Cond.methodLink RX1 41 yX1_shown ∈ wsL_law := wc_20 _ (List.mem_of_getElem? (i := 17) rfl)
theorem wq_20_18 : Cond.methodLink RL 56 yX7_ofGauge ∈ wsL_law := wc_20 _ (List.mem_of_getElem? (i := 18) rfl)
theorem wq_20_19 : Cond.instanceMethod yX7_ofGauge ∈ wsL_law := wc_20 _ (List.mem_of_getElem? (i := 19) rfl)
theorem wq_20_20 : Cond.selects RX7 yX7_ofGauge yX7_ofGauge ∈ wsL_law := wc_20 _ (List.mem_of_getElem? (i := 20) rfl)
theorem wq_20_21 : Cond.code yX7_ofGauge cX7_ofGauge 4 (some .int) ∈ wsL_law := wc_20 _ (List.mem_of_getElem? (i := 21) rfl)
theorem wq_20_22 : Cond.methodLink RL 57 yX6_reading ∈ wsL_law := wc_20 _ (List.mem_of_getElem? (i := 22) rfl)
theorem wq_20_23 : Cond.instanceMethod yX6_reading ∈ wsL_law := wc_20 _ (List.mem_of_getElem? (i := 23) rfl)
theorem wq_21_0 : Cond.selects RX6 yX6_reading yX6_reading ∈ wsL_law := wc_21 _ (List.mem_of_getElem? (i := 0) rfl)
theorem wq_21_1 : Cond.code yX6_reading cX6_reading 5 (some .int) ∈ wsL_law := wc_21 _ (List.mem_of_getElem? (i := 1) rfl)
theorem wq_21_2 : Cond.fieldLink RX6 100 "GaugeColumns$Gauge" "certificate" "LGaugeColumns$Certificate;" ∈ wsL_law := wc_21 _ (List.mem_of_getElem? (i := 2) rfl)
theorem wq_21_3 : Cond.fieldLink RX6 104 "GaugeColumns$Certificate" "readings" "[I" ∈ wsL_law := wc_21 _ (List.mem_of_getElem? (i := 3) rfl)
theorem wq_21_4 : Cond.methodLink RL 60 yX7_reading ∈ wsL_law := wc_21 _ (List.mem_of_getElem? (i := 4) rfl)
theorem wq_21_5 : Cond.instanceMethod yX7_reading ∈ wsL_law := wc_21 _ (List.mem_of_getElem? (i := 5) rfl)
theorem wq_21_6 : Cond.selects RX7 yX7_reading yX7_reading ∈ wsL_law := wc_21 _ (List.mem_of_getElem? (i := 6) rfl)
theorem wq_21_7 : Cond.code yX7_reading cX7_reading 3 (some .int) ∈ wsL_law := wc_21 _ (List.mem_of_getElem? (i := 7) rfl)
theorem wq_21_8 : Cond.methodLink RL 61 yX6_count ∈ wsL_law := wc_21 _ (List.mem_of_getElem? (i := 8) rfl)
theorem wq_21_9 : Cond.instanceMethod yX6_count ∈ wsL_law := wc_21 _ (List.mem_of_getElem? (i := 9) rfl)
theorem wq_21_10 : Cond.selects RX6 yX6_count yX6_count ∈ wsL_law := wc_21 _ (List.mem_of_getElem? (i := 10) rfl)
theorem wq_21_11 : Cond.code yX6_count cX6_count 2 (some .int) ∈ wsL_law := wc_21 _ (List.mem_of_getElem? (i := 11) rfl)
theorem wq_21_12 : Cond.fieldLink RX6 109 "GaugeColumns$Tester" "ringCount" "I" ∈ wsL_law := wc_21 _ (List.mem_of_getElem? (i := 12) rfl)
theorem wq_21_13 : Cond.fieldLink RX6 113 "GaugeColumns$Tester" "gaugeCount" "I" ∈ wsL_law := wc_21 _ (List.mem_of_getElem? (i := 13) rfl)
theorem wq_21_14 : Cond.fieldLink RX6 116 "GaugeColumns$Tester" "column" "I" ∈ wsL_law := wc_21 _ (List.mem_of_getElem? (i := 14) rfl)
theorem wq_21_15 : Cond.fieldLink RX6 122 "GaugeColumns$Tester" "settings" "[I" ∈ wsL_law := wc_21 _ (List.mem_of_getElem? (i := 15) rfl)
theorem wq_21_16 : Cond.fieldLink RX6 134 "GaugeColumns$Pad" "length" "I" ∈ wsL_law := wc_21 _ (List.mem_of_getElem? (i := 16) rfl)
theorem wq_21_17 : Cond.fieldLink RX6 137 "GaugeColumns$History" "kept" "I" ∈ wsL_law := wc_21 _ (List.mem_of_getElem? (i := 17) rfl)
theorem wq_21_18 : Cond.methodLink RX6 119 yX4_massOf ∈ wsL_law := wc_21 _ (List.mem_of_getElem? (i := 18) rfl)
theorem wq_21_19 : Cond.methodLink RX6 125 yX6_weightOf ∈ wsL_law := wc_21 _ (List.mem_of_getElem? (i := 19) rfl)
theorem wq_21_20 : Cond.methodLink RX6 128 yX4_columnPressure ∈ wsL_law := wc_21 _ (List.mem_of_getElem? (i := 20) rfl)
theorem wq_21_21 : Cond.methodLink RX6 131 yX4_countCertificates ∈ wsL_law := wc_21 _ (List.mem_of_getElem? (i := 21) rfl)
theorem wq_21_22 : Cond.instanceMethod yX4_countCertificates ∈ wsL_law := wc_21 _ (List.mem_of_getElem? (i := 22) rfl)
theorem wq_21_23 : Cond.selects RX4 yX4_countCertificates yX4_countCertificates ∈ wsL_law := wc_21 _ (List.mem_of_getElem? (i := 23) rfl)
theorem wq_22_0 : Cond.code yX4_countCertificates cX4_countCertificates 3 (some .int) ∈ wsL_law := wc_22 _ (List.mem_of_getElem? (i := 0) rfl)
theorem wq_22_1 : Cond.methodLink RL 64 yX7_count ∈ wsL_law := wc_22 _ (List.mem_of_getElem? (i := 1) rfl)
theorem wq_22_2 : Cond.instanceMethod yX7_count ∈ wsL_law := wc_22 _ (List.mem_of_getElem? (i := 2) rfl)
theorem wq_22_3 : Cond.selects RX7 yX7_count yX7_count ∈ wsL_law := wc_22 _ (List.mem_of_getElem? (i := 3) rfl)
theorem wq_22_4 : Cond.code yX7_count cX7_count 2 (some .int) ∈ wsL_law := wc_22 _ (List.mem_of_getElem? (i := 4) rfl)
theorem wq_22_5 : Cond.fieldLink RX7 163 "GaugeColumnsModel" "padLength" "I" ∈ wsL_law := wc_22 _ (List.mem_of_getElem? (i := 5) rfl)
theorem wq_22_6 : Cond.methodLink RX7 159 yX7_certificates ∈ wsL_law := wc_22 _ (List.mem_of_getElem? (i := 6) rfl)
theorem wq_22_7 : Cond.instanceMethod yX7_certificates ∈ wsL_law := wc_22 _ (List.mem_of_getElem? (i := 7) rfl)
theorem wq_22_8 : Cond.selects RX7 yX7_certificates yX7_certificates ∈ wsL_law := wc_22 _ (List.mem_of_getElem? (i := 8) rfl)
theorem wq_22_9 : Cond.code yX7_certificates cX7_certificates 3 (some .int) ∈ wsL_law := wc_22 _ (List.mem_of_getElem? (i := 9) rfl)
theorem wq_22_10 : Cond.methodLink RL 65 yX6_pressure ∈ wsL_law := wc_22 _ (List.mem_of_getElem? (i := 10) rfl)
theorem wq_22_11 : Cond.instanceMethod yX6_pressure ∈ wsL_law := wc_22 _ (List.mem_of_getElem? (i := 11) rfl)
theorem wq_22_12 : Cond.selects RX6 yX6_pressure yX6_pressure ∈ wsL_law := wc_22 _ (List.mem_of_getElem? (i := 12) rfl)
theorem wq_22_13 : Cond.code yX6_pressure cX6_pressure 2 (some .int) ∈ wsL_law := wc_22 _ (List.mem_of_getElem? (i := 13) rfl)
theorem wq_22_14 : Cond.methodLink RX6 140 yX4_pressureOf ∈ wsL_law := wc_22 _ (List.mem_of_getElem? (i := 14) rfl)
theorem wq_22_15 : Cond.methodLink RL 68 yX7_pressure ∈ wsL_law := wc_22 _ (List.mem_of_getElem? (i := 15) rfl)
theorem wq_22_16 : Cond.instanceMethod yX7_pressure ∈ wsL_law := wc_22 _ (List.mem_of_getElem? (i := 16) rfl)
theorem wq_22_17 : Cond.selects RX7 yX7_pressure yX7_pressure ∈ wsL_law := wc_22 _ (List.mem_of_getElem? (i := 17) rfl)
theorem wq_22_18 : Cond.code yX7_pressure cX7_pressure 2 (some .int) ∈ wsL_law := wc_22 _ (List.mem_of_getElem? (i := 18) rfl)
theorem wq_22_19 : Cond.methodLink RL 69 yX6_nearest ∈ wsL_law := wc_22 _ (List.mem_of_getElem? (i := 19) rfl)
theorem wq_22_20 : Cond.instanceMethod yX6_nearest ∈ wsL_law := wc_22 _ (List.mem_of_getElem? (i := 20) rfl)
theorem wq_22_21 : Cond.selects RX6 yX6_nearest yX6_nearest ∈ wsL_law := wc_22 _ (List.mem_of_getElem? (i := 21) rfl)
theorem wq_22_22 : Cond.code yX6_nearest cX6_nearest 4 (some .int) ∈ wsL_law := wc_22 _ (List.mem_of_getElem? (i := 22) rfl)
theorem wq_22_23 : Cond.methodLink RX6 143 yX4_nearestTo ∈ wsL_law := wc_22 _ (List.mem_of_getElem? (i := 23) rfl)
theorem wq_23_0 : Cond.instanceMethod yX4_nearestTo ∈ wsL_law := wc_23 _ (List.mem_of_getElem? (i := 0) rfl)
theorem wq_23_1 : Cond.selects RX4 yX4_nearestTo yX4_nearestTo ∈ wsL_law := wc_23 _ (List.mem_of_getElem? (i := 1) rfl)
theorem wq_23_2 : Cond.code yX4_nearestTo cX4_nearestTo 7 (some .int) ∈ wsL_law := wc_23 _ (List.mem_of_getElem? (i := 2) rfl)
theorem wq_23_3 : Cond.constant RX4 127 (2147483647) ∈ wsL_law := wc_23 _ (List.mem_of_getElem? (i := 3) rfl)
theorem wq_23_4 : Cond.methodLink RX4 128 Lib.Math.abs.name ∈ wsL_law := wc_23 _ (List.mem_of_getElem? (i := 4) rfl)
theorem wq_23_5 : Cond.methodLink RX4 133 yJ6_bitCount_0f7a4 ∈ wsL_law := wc_23 _ (List.mem_of_getElem? (i := 5) rfl)
theorem wq_23_6 : Cond.static yJ6_bitCount_0f7a4 ∈ wsL_law := wc_23 _ (List.mem_of_getElem? (i := 6) rfl)
theorem wq_23_7 : Cond.initialized RJ6 ∈ wsL_law := wc_23 _ (List.mem_of_getElem? (i := 7) rfl)
theorem wq_23_8 : Cond.code yJ6_bitCount_0f7a4 cJ6_bitCount_0f7a4 1 (some .int) ∈ wsL_law := wc_23 _ (List.mem_of_getElem? (i := 8) rfl)
theorem wq_23_9 : Cond.constant RJ6 265 (1431655765) ∈ wsL_law := wc_23 _ (List.mem_of_getElem? (i := 9) rfl)
theorem wq_23_10 : Cond.constant RJ6 266 (858993459) ∈ wsL_law := wc_23 _ (List.mem_of_getElem? (i := 10) rfl)
theorem wq_23_11 : Cond.constant RJ6 267 (252645135) ∈ wsL_law := wc_23 _ (List.mem_of_getElem? (i := 11) rfl)
theorem wq_23_12 : Cond.methodLink RX4 138 yX4_massToNext ∈ wsL_law := wc_23 _ (List.mem_of_getElem? (i := 12) rfl)
theorem wq_23_13 : Cond.instanceMethod yX4_massToNext ∈ wsL_law := wc_23 _ (List.mem_of_getElem? (i := 13) rfl)
theorem wq_23_14 : Cond.selects RX4 yX4_massToNext yX4_massToNext ∈ wsL_law := wc_23 _ (List.mem_of_getElem? (i := 14) rfl)
theorem wq_23_15 : Cond.code yX4_massToNext cX4_massToNext 4 (some .int) ∈ wsL_law := wc_23 _ (List.mem_of_getElem? (i := 15) rfl)
theorem wq_23_16 : Cond.methodLink RL 72 yX7_nearest ∈ wsL_law := wc_23 _ (List.mem_of_getElem? (i := 16) rfl)
theorem wq_23_17 : Cond.instanceMethod yX7_nearest ∈ wsL_law := wc_23 _ (List.mem_of_getElem? (i := 17) rfl)
theorem wq_23_18 : Cond.selects RX7 yX7_nearest yX7_nearest ∈ wsL_law := wc_23 _ (List.mem_of_getElem? (i := 18) rfl)
theorem wq_23_19 : Cond.code yX7_nearest cX7_nearest 7 (some .int) ∈ wsL_law := wc_23 _ (List.mem_of_getElem? (i := 19) rfl)
theorem wq_23_20 : Cond.methodLink RX7 166 yX7_bits ∈ wsL_law := wc_23 _ (List.mem_of_getElem? (i := 20) rfl)
theorem wq_23_21 : Cond.static yX7_bits ∈ wsL_law := wc_23 _ (List.mem_of_getElem? (i := 21) rfl)
theorem wq_23_22 : Cond.code yX7_bits cX7_bits 3 (some .int) ∈ wsL_law := wc_23 _ (List.mem_of_getElem? (i := 22) rfl)
theorem wq_23_23 : Cond.methodLink RL 73 yX6_test ∈ wsL_law := wc_23 _ (List.mem_of_getElem? (i := 23) rfl)
theorem wq_24_0 : Cond.instanceMethod yX6_test ∈ wsL_law := wc_24 _ (List.mem_of_getElem? (i := 0) rfl)
theorem wq_24_1 : Cond.selects RX6 yX6_test yX6_test ∈ wsL_law := wc_24 _ (List.mem_of_getElem? (i := 1) rfl)
theorem wq_24_2 : Cond.code yX6_test cX6_test 4 (some .int) ∈ wsL_law := wc_24 _ (List.mem_of_getElem? (i := 2) rfl)
theorem wq_24_3 : Cond.fieldLink RX6 149 "GaugeColumns$Gauge" "error" "I" ∈ wsL_law := wc_24 _ (List.mem_of_getElem? (i := 3) rfl)
theorem wq_24_4 : Cond.fieldLink RX6 156 "GaugeColumns$Trial" "greatest" "I" ∈ wsL_law := wc_24 _ (List.mem_of_getElem? (i := 4) rfl)
theorem wq_24_5 : Cond.fieldLink RX6 159 "GaugeColumns$Trial" "worst" "I" ∈ wsL_law := wc_24 _ (List.mem_of_getElem? (i := 5) rfl)
theorem wq_24_6 : Cond.fieldLink RX6 162 "GaugeColumns$Trial" "length" "I" ∈ wsL_law := wc_24 _ (List.mem_of_getElem? (i := 6) rfl)
theorem wq_24_7 : Cond.methodLink RX6 146 yX5_prepare ∈ wsL_law := wc_24 _ (List.mem_of_getElem? (i := 7) rfl)
theorem wq_24_8 : Cond.methodLink RX6 152 yX5_run ∈ wsL_law := wc_24 _ (List.mem_of_getElem? (i := 8) rfl)
theorem wq_24_9 : Cond.methodLink RL 76 yX7_test ∈ wsL_law := wc_24 _ (List.mem_of_getElem? (i := 9) rfl)
theorem wq_24_10 : Cond.instanceMethod yX7_test ∈ wsL_law := wc_24 _ (List.mem_of_getElem? (i := 10) rfl)
theorem wq_24_11 : Cond.selects RX7 yX7_test yX7_test ∈ wsL_law := wc_24 _ (List.mem_of_getElem? (i := 11) rfl)
theorem wq_24_12 : Cond.code yX7_test cX7_test 3 (some .int) ∈ wsL_law := wc_24 _ (List.mem_of_getElem? (i := 12) rfl)
theorem wq_24_13 : Cond.methodLink RL 77 yX6_bestError ∈ wsL_law := wc_24 _ (List.mem_of_getElem? (i := 13) rfl)
theorem wq_24_14 : Cond.instanceMethod yX6_bestError ∈ wsL_law := wc_24 _ (List.mem_of_getElem? (i := 14) rfl)
theorem wq_24_15 : Cond.selects RX6 yX6_bestError yX6_bestError ∈ wsL_law := wc_24 _ (List.mem_of_getElem? (i := 15) rfl)
theorem wq_24_16 : Cond.code yX6_bestError cX6_bestError 7 (some .int) ∈ wsL_law := wc_24 _ (List.mem_of_getElem? (i := 16) rfl)
theorem wq_24_17 : Cond.constant RX6 163 (2147483647) ∈ wsL_law := wc_24 _ (List.mem_of_getElem? (i := 17) rfl)
theorem wq_24_18 : Cond.methodLink RL 80 yX7_bestError ∈ wsL_law := wc_24 _ (List.mem_of_getElem? (i := 18) rfl)
theorem wq_24_19 : Cond.instanceMethod yX7_bestError ∈ wsL_law := wc_24 _ (List.mem_of_getElem? (i := 19) rfl)
theorem wq_24_20 : Cond.selects RX7 yX7_bestError yX7_bestError ∈ wsL_law := wc_24 _ (List.mem_of_getElem? (i := 20) rfl)
theorem wq_24_21 : Cond.code yX7_bestError cX7_bestError 7 (some .int) ∈ wsL_law := wc_24 _ (List.mem_of_getElem? (i := 21) rfl)
theorem wq_24_22 : Cond.methodLink RL 81 yX6_airCosts ∈ wsL_law := wc_24 _ (List.mem_of_getElem? (i := 22) rfl)
theorem wq_24_23 : Cond.instanceMethod yX6_airCosts ∈ wsL_law := wc_24 _ (List.mem_of_getElem? (i := 23) rfl)
theorem wq_25_0 : Cond.selects RX6 yX6_airCosts yX6_airCosts ∈ wsL_law := wc_25 _ (List.mem_of_getElem? (i := 0) rfl)
theorem wq_25_1 : Cond.code yX6_airCosts cX6_airCosts 2 (some .int) ∈ wsL_law := wc_25 _ (List.mem_of_getElem? (i := 1) rfl)
theorem wq_25_2 : Cond.fieldLink RX6 164 "GaugeColumns" "LEAST" "[I" ∈ wsL_law := wc_25 _ (List.mem_of_getElem? (i := 2) rfl)
theorem wq_25_3 : Cond.fieldLink RX6 167 "GaugeColumns" "MOST" "[I" ∈ wsL_law := wc_25 _ (List.mem_of_getElem? (i := 3) rfl)
theorem wq_25_4 : Cond.methodLink RL 84 yX7_airCosts ∈ wsL_law := wc_25 _ (List.mem_of_getElem? (i := 4) rfl)
theorem wq_25_5 : Cond.instanceMethod yX7_airCosts ∈ wsL_law := wc_25 _ (List.mem_of_getElem? (i := 5) rfl)
theorem wq_25_6 : Cond.selects RX7 yX7_airCosts yX7_airCosts ∈ wsL_law := wc_25 _ (List.mem_of_getElem? (i := 6) rfl)
theorem wq_25_7 : Cond.code yX7_airCosts cX7_airCosts 3 (some .int) ∈ wsL_law := wc_25 _ (List.mem_of_getElem? (i := 7) rfl)
theorem wq_25_8 : Cond.methodLink RL 87 yX6_put ∈ wsL_law := wc_25 _ (List.mem_of_getElem? (i := 8) rfl)
theorem wq_25_9 : Cond.instanceMethod yX6_put ∈ wsL_law := wc_25 _ (List.mem_of_getElem? (i := 9) rfl)
theorem wq_25_10 : Cond.selects RX6 yX6_put yX6_put ∈ wsL_law := wc_25 _ (List.mem_of_getElem? (i := 10) rfl)
theorem wq_25_11 : Cond.code yX6_put cX6_put 3 (some .int) ∈ wsL_law := wc_25 _ (List.mem_of_getElem? (i := 11) rfl)
theorem wq_25_12 : Cond.methodLink RX6 170 yX3_append ∈ wsL_law := wc_25 _ (List.mem_of_getElem? (i := 12) rfl)
theorem wq_25_13 : Cond.instanceMethod yX3_append ∈ wsL_law := wc_25 _ (List.mem_of_getElem? (i := 13) rfl)
theorem wq_25_14 : Cond.selects RX3 yX3_append yX3_append ∈ wsL_law := wc_25 _ (List.mem_of_getElem? (i := 14) rfl)
theorem wq_25_15 : Cond.code yX3_append cX3_append 5 (some .int) ∈ wsL_law := wc_25 _ (List.mem_of_getElem? (i := 15) rfl)
theorem wq_25_16 : Cond.fieldLink RX3 23 "GaugeColumns$Pad" "length" "I" ∈ wsL_law := wc_25 _ (List.mem_of_getElem? (i := 16) rfl)
theorem wq_25_17 : Cond.constantLong RX3 27 (255) ∈ wsL_law := wc_25 _ (List.mem_of_getElem? (i := 17) rfl)
theorem wq_25_18 : Cond.methodLink RX3 19 yX3_howMany ∈ wsL_law := wc_25 _ (List.mem_of_getElem? (i := 18) rfl)
theorem wq_25_19 : Cond.static yX3_howMany ∈ wsL_law := wc_25 _ (List.mem_of_getElem? (i := 19) rfl)
theorem wq_25_20 : Cond.code yX3_howMany cX3_howMany 5 (some .int) ∈ wsL_law := wc_25 _ (List.mem_of_getElem? (i := 20) rfl)
theorem wq_25_21 : Cond.constantLong RX3 29 (33) ∈ wsL_law := wc_25 _ (List.mem_of_getElem? (i := 21) rfl)
theorem wq_25_22 : Cond.constantLong RX3 31 (126) ∈ wsL_law := wc_25 _ (List.mem_of_getElem? (i := 22) rfl)
theorem wq_25_23 : Cond.methodLink RL 91 yX7_put ∈ wsL_law := wc_25 _ (List.mem_of_getElem? (i := 23) rfl)
theorem wq_26_0 : Cond.instanceMethod yX7_put ∈ wsL_law := wc_26 _ (List.mem_of_getElem? (i := 0) rfl)
theorem wq_26_1 : Cond.selects RX7 yX7_put yX7_put ∈ wsL_law := wc_26 _ (List.mem_of_getElem? (i := 1) rfl)
theorem wq_26_2 : Cond.code yX7_put cX7_put 8 (some .int) ∈ wsL_law := wc_26 _ (List.mem_of_getElem? (i := 2) rfl)
theorem wq_26_3 : Cond.constantLong RX7 169 (255) ∈ wsL_law := wc_26 _ (List.mem_of_getElem? (i := 3) rfl)
theorem wq_26_4 : Cond.methodLink RL 92 yX6_wipe ∈ wsL_law := wc_26 _ (List.mem_of_getElem? (i := 4) rfl)
theorem wq_26_5 : Cond.instanceMethod yX6_wipe ∈ wsL_law := wc_26 _ (List.mem_of_getElem? (i := 5) rfl)
theorem wq_26_6 : Cond.selects RX6 yX6_wipe yX6_wipe ∈ wsL_law := wc_26 _ (List.mem_of_getElem? (i := 6) rfl)
theorem wq_26_7 : Cond.code yX6_wipe cX6_wipe 1 (some .int) ∈ wsL_law := wc_26 _ (List.mem_of_getElem? (i := 7) rfl)
theorem wq_26_8 : Cond.methodLink RX6 174 yX3_clear ∈ wsL_law := wc_26 _ (List.mem_of_getElem? (i := 8) rfl)
theorem wq_26_9 : Cond.instanceMethod yX3_clear ∈ wsL_law := wc_26 _ (List.mem_of_getElem? (i := 9) rfl)
theorem wq_26_10 : Cond.selects RX3 yX3_clear yX3_clear ∈ wsL_law := wc_26 _ (List.mem_of_getElem? (i := 10) rfl)
theorem wq_26_11 : Cond.code yX3_clear cX3_clear 2 (some .int) ∈ wsL_law := wc_26 _ (List.mem_of_getElem? (i := 11) rfl)
theorem wq_26_12 : Cond.methodLink RL 95 yX7_wipe ∈ wsL_law := wc_26 _ (List.mem_of_getElem? (i := 12) rfl)
theorem wq_26_13 : Cond.instanceMethod yX7_wipe ∈ wsL_law := wc_26 _ (List.mem_of_getElem? (i := 13) rfl)
theorem wq_26_14 : Cond.selects RX7 yX7_wipe yX7_wipe ∈ wsL_law := wc_26 _ (List.mem_of_getElem? (i := 14) rfl)
theorem wq_26_15 : Cond.code yX7_wipe cX7_wipe 2 (some .int) ∈ wsL_law := wc_26 _ (List.mem_of_getElem? (i := 15) rfl)
theorem wq_26_16 : Cond.methodLink RL 96 yX6_fault ∈ wsL_law := wc_26 _ (List.mem_of_getElem? (i := 16) rfl)
theorem wq_26_17 : Cond.instanceMethod yX6_fault ∈ wsL_law := wc_26 _ (List.mem_of_getElem? (i := 17) rfl)
theorem wq_26_18 : Cond.selects RX6 yX6_fault yX6_fault ∈ wsL_law := wc_26 _ (List.mem_of_getElem? (i := 18) rfl)
theorem wq_26_19 : Cond.code yX6_fault cX6_fault 1 (some .int) ∈ wsL_law := wc_26 _ (List.mem_of_getElem? (i := 19) rfl)
theorem wq_26_20 : Cond.methodLink RX6 177 yX3_findFault ∈ wsL_law := wc_26 _ (List.mem_of_getElem? (i := 20) rfl)
theorem wq_26_21 : Cond.instanceMethod yX3_findFault ∈ wsL_law := wc_26 _ (List.mem_of_getElem? (i := 21) rfl)
theorem wq_26_22 : Cond.selects RX3 yX3_findFault yX3_findFault ∈ wsL_law := wc_26 _ (List.mem_of_getElem? (i := 22) rfl)
theorem wq_26_23 : Cond.code yX3_findFault cX3_findFault 3 (some .int) ∈ wsL_law := wc_26 _ (List.mem_of_getElem? (i := 23) rfl)
theorem wq_27_0 : Cond.fieldLink RX3 40 "GaugeColumns$Pad" "cursor" "I" ∈ wsL_law := wc_27 _ (List.mem_of_getElem? (i := 0) rfl)
theorem wq_27_1 : Cond.methodLink RX3 33 yX3_rewind ∈ wsL_law := wc_27 _ (List.mem_of_getElem? (i := 1) rfl)
theorem wq_27_2 : Cond.instanceMethod yX3_rewind ∈ wsL_law := wc_27 _ (List.mem_of_getElem? (i := 2) rfl)
theorem wq_27_3 : Cond.selects RX3 yX3_rewind yX3_rewind ∈ wsL_law := wc_27 _ (List.mem_of_getElem? (i := 3) rfl)
theorem wq_27_4 : Cond.code yX3_rewind cX3_rewind 1 none ∈ wsL_law := wc_27 _ (List.mem_of_getElem? (i := 4) rfl)
theorem wq_27_5 : Cond.methodLink RX3 36 yX3_nextOrder ∈ wsL_law := wc_27 _ (List.mem_of_getElem? (i := 5) rfl)
theorem wq_27_6 : Cond.instanceMethod yX3_nextOrder ∈ wsL_law := wc_27 _ (List.mem_of_getElem? (i := 6) rfl)
theorem wq_27_7 : Cond.selects RX3 yX3_nextOrder yX3_nextOrder ∈ wsL_law := wc_27 _ (List.mem_of_getElem? (i := 7) rfl)
theorem wq_27_8 : Cond.code yX3_nextOrder cX3_nextOrder 1 (some .boolean) ∈ wsL_law := wc_27 _ (List.mem_of_getElem? (i := 8) rfl)
theorem wq_27_9 : Cond.fieldLink RX3 51 "GaugeColumns$Pad" "kind" "I" ∈ wsL_law := wc_27 _ (List.mem_of_getElem? (i := 9) rfl)
theorem wq_27_10 : Cond.methodLink RX3 43 yX3_pass ∈ wsL_law := wc_27 _ (List.mem_of_getElem? (i := 10) rfl)
theorem wq_27_11 : Cond.instanceMethod yX3_pass ∈ wsL_law := wc_27 _ (List.mem_of_getElem? (i := 11) rfl)
theorem wq_27_12 : Cond.selects RX3 yX3_pass yX3_pass ∈ wsL_law := wc_27 _ (List.mem_of_getElem? (i := 12) rfl)
theorem wq_27_13 : Cond.code yX3_pass cX3_pass 2 (some .boolean) ∈ wsL_law := wc_27 _ (List.mem_of_getElem? (i := 13) rfl)
theorem wq_27_14 : Cond.methodLink RX3 47 yX3_signAt ∈ wsL_law := wc_27 _ (List.mem_of_getElem? (i := 14) rfl)
theorem wq_27_15 : Cond.instanceMethod yX3_signAt ∈ wsL_law := wc_27 _ (List.mem_of_getElem? (i := 15) rfl)
theorem wq_27_16 : Cond.selects RX3 yX3_signAt yX3_signAt ∈ wsL_law := wc_27 _ (List.mem_of_getElem? (i := 16) rfl)
theorem wq_27_17 : Cond.code yX3_signAt cX3_signAt 2 (some .int) ∈ wsL_law := wc_27 _ (List.mem_of_getElem? (i := 17) rfl)
theorem wq_27_18 : Cond.methodLink RX3 54 yX3_readNumber ∈ wsL_law := wc_27 _ (List.mem_of_getElem? (i := 18) rfl)
theorem wq_27_19 : Cond.instanceMethod yX3_readNumber ∈ wsL_law := wc_27 _ (List.mem_of_getElem? (i := 19) rfl)
theorem wq_27_20 : Cond.selects RX3 yX3_readNumber yX3_readNumber ∈ wsL_law := wc_27 _ (List.mem_of_getElem? (i := 20) rfl)
theorem wq_27_21 : Cond.code yX3_readNumber cX3_readNumber 4 (some .boolean) ∈ wsL_law := wc_27 _ (List.mem_of_getElem? (i := 21) rfl)
theorem wq_27_22 : Cond.methodLink RX3 63 yX3_isDigit ∈ wsL_law := wc_27 _ (List.mem_of_getElem? (i := 22) rfl)
theorem wq_27_23 : Cond.static yX3_isDigit ∈ wsL_law := wc_27 _ (List.mem_of_getElem? (i := 23) rfl)
theorem wq_28_0 : Cond.code yX3_isDigit cX3_isDigit 1 (some .boolean) ∈ wsL_law := wc_28 _ (List.mem_of_getElem? (i := 0) rfl)
theorem wq_28_1 : Cond.methodLink RX3 57 yX3_readDigit ∈ wsL_law := wc_28 _ (List.mem_of_getElem? (i := 1) rfl)
theorem wq_28_2 : Cond.instanceMethod yX3_readDigit ∈ wsL_law := wc_28 _ (List.mem_of_getElem? (i := 2) rfl)
theorem wq_28_3 : Cond.selects RX3 yX3_readDigit yX3_readDigit ∈ wsL_law := wc_28 _ (List.mem_of_getElem? (i := 3) rfl)
theorem wq_28_4 : Cond.code yX3_readDigit cX3_readDigit 2 (some .boolean) ∈ wsL_law := wc_28 _ (List.mem_of_getElem? (i := 4) rfl)
theorem wq_28_5 : Cond.methodLink RX3 60 yX3_readValue ∈ wsL_law := wc_28 _ (List.mem_of_getElem? (i := 5) rfl)
theorem wq_28_6 : Cond.instanceMethod yX3_readValue ∈ wsL_law := wc_28 _ (List.mem_of_getElem? (i := 6) rfl)
theorem wq_28_7 : Cond.selects RX3 yX3_readValue yX3_readValue ∈ wsL_law := wc_28 _ (List.mem_of_getElem? (i := 7) rfl)
theorem wq_28_8 : Cond.code yX3_readValue cX3_readValue 2 (some .boolean) ∈ wsL_law := wc_28 _ (List.mem_of_getElem? (i := 8) rfl)
theorem wq_28_9 : Cond.methodLink RL 99 yX7_fault ∈ wsL_law := wc_28 _ (List.mem_of_getElem? (i := 9) rfl)
theorem wq_28_10 : Cond.instanceMethod yX7_fault ∈ wsL_law := wc_28 _ (List.mem_of_getElem? (i := 10) rfl)
theorem wq_28_11 : Cond.selects RX7 yX7_fault yX7_fault ∈ wsL_law := wc_28 _ (List.mem_of_getElem? (i := 11) rfl)
theorem wq_28_12 : Cond.code yX7_fault cX7_fault 1 (some .int) ∈ wsL_law := wc_28 _ (List.mem_of_getElem? (i := 12) rfl)
theorem wq_28_13 : Cond.methodLink RX7 205 yX7_findFault ∈ wsL_law := wc_28 _ (List.mem_of_getElem? (i := 13) rfl)
theorem wq_28_14 : Cond.instanceMethod yX7_findFault ∈ wsL_law := wc_28 _ (List.mem_of_getElem? (i := 14) rfl)
theorem wq_28_15 : Cond.selects RX7 yX7_findFault yX7_findFault ∈ wsL_law := wc_28 _ (List.mem_of_getElem? (i := 15) rfl)
theorem wq_28_16 : Cond.code yX7_findFault cX7_findFault 1 (some .int) ∈ wsL_law := wc_28 _ (List.mem_of_getElem? (i := 16) rfl)
theorem wq_28_17 : Cond.fieldLink RX7 171 "GaugeColumnsModel" "at" "I" ∈ wsL_law := wc_28 _ (List.mem_of_getElem? (i := 17) rfl)
theorem wq_28_18 : Cond.methodLink RX7 202 yX7_readsOrder ∈ wsL_law := wc_28 _ (List.mem_of_getElem? (i := 18) rfl)
theorem wq_28_19 : Cond.instanceMethod yX7_readsOrder ∈ wsL_law := wc_28 _ (List.mem_of_getElem? (i := 19) rfl)
theorem wq_28_20 : Cond.selects RX7 yX7_readsOrder yX7_readsOrder ∈ wsL_law := wc_28 _ (List.mem_of_getElem? (i := 20) rfl)
theorem wq_28_21 : Cond.code yX7_readsOrder cX7_readsOrder 1 (some .boolean) ∈ wsL_law := wc_28 _ (List.mem_of_getElem? (i := 21) rfl)
theorem wq_28_22 : Cond.fieldLink RX7 195 "GaugeColumnsModel" "letter" "I" ∈ wsL_law := wc_28 _ (List.mem_of_getElem? (i := 22) rfl)
theorem wq_28_23 : Cond.fieldLink RX7 186 "GaugeColumnsModel" "first" "I" ∈ wsL_law := wc_28 _ (List.mem_of_getElem? (i := 23) rfl)
theorem wq_29_0 : Cond.methodLink RX7 174 yX7_character ∈ wsL_law := wc_29 _ (List.mem_of_getElem? (i := 0) rfl)
theorem wq_29_1 : Cond.instanceMethod yX7_character ∈ wsL_law := wc_29 _ (List.mem_of_getElem? (i := 1) rfl)
theorem wq_29_2 : Cond.selects RX7 yX7_character yX7_character ∈ wsL_law := wc_29 _ (List.mem_of_getElem? (i := 2) rfl)
theorem wq_29_3 : Cond.code yX7_character cX7_character 2 (some .int) ∈ wsL_law := wc_29 _ (List.mem_of_getElem? (i := 3) rfl)
theorem wq_29_4 : Cond.methodLink RX7 183 yX7_takeNumber ∈ wsL_law := wc_29 _ (List.mem_of_getElem? (i := 4) rfl)
theorem wq_29_5 : Cond.instanceMethod yX7_takeNumber ∈ wsL_law := wc_29 _ (List.mem_of_getElem? (i := 5) rfl)
theorem wq_29_6 : Cond.selects RX7 yX7_takeNumber yX7_takeNumber ∈ wsL_law := wc_29 _ (List.mem_of_getElem? (i := 6) rfl)
theorem wq_29_7 : Cond.code yX7_takeNumber cX7_takeNumber 2 (some .int) ∈ wsL_law := wc_29 _ (List.mem_of_getElem? (i := 7) rfl)
theorem wq_29_8 : Cond.methodLink RX7 177 yX7_takeDigit ∈ wsL_law := wc_29 _ (List.mem_of_getElem? (i := 8) rfl)
theorem wq_29_9 : Cond.instanceMethod yX7_takeDigit ∈ wsL_law := wc_29 _ (List.mem_of_getElem? (i := 9) rfl)
theorem wq_29_10 : Cond.selects RX7 yX7_takeDigit yX7_takeDigit ∈ wsL_law := wc_29 _ (List.mem_of_getElem? (i := 10) rfl)
theorem wq_29_11 : Cond.code yX7_takeDigit cX7_takeDigit 2 (some .int) ∈ wsL_law := wc_29 _ (List.mem_of_getElem? (i := 11) rfl)
theorem wq_29_12 : Cond.methodLink RX7 198 yX7_readsGauge ∈ wsL_law := wc_29 _ (List.mem_of_getElem? (i := 12) rfl)
theorem wq_29_13 : Cond.instanceMethod yX7_readsGauge ∈ wsL_law := wc_29 _ (List.mem_of_getElem? (i := 13) rfl)
theorem wq_29_14 : Cond.selects RX7 yX7_readsGauge yX7_readsGauge ∈ wsL_law := wc_29 _ (List.mem_of_getElem? (i := 14) rfl)
theorem wq_29_15 : Cond.code yX7_readsGauge cX7_readsGauge 3 (some .boolean) ∈ wsL_law := wc_29 _ (List.mem_of_getElem? (i := 15) rfl)
theorem wq_29_16 : Cond.fieldLink RX7 189 "GaugeColumnsModel" "second" "I" ∈ wsL_law := wc_29 _ (List.mem_of_getElem? (i := 16) rfl)
theorem wq_29_17 : Cond.fieldLink RX7 192 "GaugeColumnsModel" "third" "I" ∈ wsL_law := wc_29 _ (List.mem_of_getElem? (i := 17) rfl)
theorem wq_29_18 : Cond.methodLink RX7 180 yX7_isNext ∈ wsL_law := wc_29 _ (List.mem_of_getElem? (i := 18) rfl)
theorem wq_29_19 : Cond.instanceMethod yX7_isNext ∈ wsL_law := wc_29 _ (List.mem_of_getElem? (i := 19) rfl)
theorem wq_29_20 : Cond.selects RX7 yX7_isNext yX7_isNext ∈ wsL_law := wc_29 _ (List.mem_of_getElem? (i := 20) rfl)
theorem wq_29_21 : Cond.code yX7_isNext cX7_isNext 3 (some .boolean) ∈ wsL_law := wc_29 _ (List.mem_of_getElem? (i := 21) rfl)
theorem wq_29_22 : Cond.methodLink RL 100 yX6_carryOut ∈ wsL_law := wc_29 _ (List.mem_of_getElem? (i := 22) rfl)
theorem wq_29_23 : Cond.instanceMethod yX6_carryOut ∈ wsL_law := wc_29 _ (List.mem_of_getElem? (i := 23) rfl)
theorem wq_30_0 : Cond.selects RX6 yX6_carryOut yX6_carryOut ∈ wsL_law := wc_30 _ (List.mem_of_getElem? (i := 0) rfl)
theorem wq_30_1 : Cond.code yX6_carryOut cX6_carryOut 2 (some .int) ∈ wsL_law := wc_30 _ (List.mem_of_getElem? (i := 1) rfl)
theorem wq_30_2 : Cond.methodLink RX6 180 yX3_rewind ∈ wsL_law := wc_30 _ (List.mem_of_getElem? (i := 2) rfl)
theorem wq_30_3 : Cond.methodLink RX6 183 yX3_nextOrder ∈ wsL_law := wc_30 _ (List.mem_of_getElem? (i := 3) rfl)
theorem wq_30_4 : Cond.methodLink RX6 187 yX6_carryOutOrder ∈ wsL_law := wc_30 _ (List.mem_of_getElem? (i := 4) rfl)
theorem wq_30_5 : Cond.instanceMethod yX6_carryOutOrder ∈ wsL_law := wc_30 _ (List.mem_of_getElem? (i := 5) rfl)
theorem wq_30_6 : Cond.selects RX6 yX6_carryOutOrder yX6_carryOutOrder ∈ wsL_law := wc_30 _ (List.mem_of_getElem? (i := 6) rfl)
theorem wq_30_7 : Cond.code yX6_carryOutOrder cX6_carryOutOrder 2 (some .int) ∈ wsL_law := wc_30 _ (List.mem_of_getElem? (i := 7) rfl)
theorem wq_30_8 : Cond.fieldLink RX6 190 "GaugeColumns$Pad" "numbers" "[I" ∈ wsL_law := wc_30 _ (List.mem_of_getElem? (i := 8) rfl)
theorem wq_30_9 : Cond.fieldLink RX6 193 "GaugeColumns$Pad" "kind" "I" ∈ wsL_law := wc_30 _ (List.mem_of_getElem? (i := 9) rfl)
theorem wq_30_10 : Cond.methodLink RL 103 yX7_carryOut ∈ wsL_law := wc_30 _ (List.mem_of_getElem? (i := 10) rfl)
theorem wq_30_11 : Cond.instanceMethod yX7_carryOut ∈ wsL_law := wc_30 _ (List.mem_of_getElem? (i := 11) rfl)
theorem wq_30_12 : Cond.selects RX7 yX7_carryOut yX7_carryOut ∈ wsL_law := wc_30 _ (List.mem_of_getElem? (i := 12) rfl)
theorem wq_30_13 : Cond.code yX7_carryOut cX7_carryOut 3 (some .int) ∈ wsL_law := wc_30 _ (List.mem_of_getElem? (i := 13) rfl)
theorem wq_30_14 : Cond.methodLink RX7 208 yX7_whyNotDone ∈ wsL_law := wc_30 _ (List.mem_of_getElem? (i := 14) rfl)
theorem wq_30_15 : Cond.instanceMethod yX7_whyNotDone ∈ wsL_law := wc_30 _ (List.mem_of_getElem? (i := 15) rfl)
theorem wq_30_16 : Cond.selects RX7 yX7_whyNotDone yX7_whyNotDone ∈ wsL_law := wc_30 _ (List.mem_of_getElem? (i := 16) rfl)
theorem wq_30_17 : Cond.code yX7_whyNotDone cX7_whyNotDone 1 (some .int) ∈ wsL_law := wc_30 _ (List.mem_of_getElem? (i := 17) rfl)
theorem wq_30_18 : Cond.methodLink RX7 211 yX7_does ∈ wsL_law := wc_30 _ (List.mem_of_getElem? (i := 18) rfl)
theorem wq_30_19 : Cond.instanceMethod yX7_does ∈ wsL_law := wc_30 _ (List.mem_of_getElem? (i := 19) rfl)
theorem wq_30_20 : Cond.selects RX7 yX7_does yX7_does ∈ wsL_law := wc_30 _ (List.mem_of_getElem? (i := 20) rfl)
theorem wq_30_21 : Cond.code yX7_does cX7_does 1 none ∈ wsL_law := wc_30 _ (List.mem_of_getElem? (i := 21) rfl)
theorem wq_30_22 : Cond.methodLink RL 104 yX6_undo ∈ wsL_law := wc_30 _ (List.mem_of_getElem? (i := 22) rfl)
theorem wq_30_23 : Cond.instanceMethod yX6_undo ∈ wsL_law := wc_30 _ (List.mem_of_getElem? (i := 23) rfl)
theorem wq_31_0 : Cond.selects RX6 yX6_undo yX6_undo ∈ wsL_law := wc_31 _ (List.mem_of_getElem? (i := 0) rfl)
theorem wq_31_1 : Cond.code yX6_undo cX6_undo 1 (some .int) ∈ wsL_law := wc_31 _ (List.mem_of_getElem? (i := 1) rfl)
theorem wq_31_2 : Cond.methodLink RX6 196 yX2_stepBack ∈ wsL_law := wc_31 _ (List.mem_of_getElem? (i := 2) rfl)
theorem wq_31_3 : Cond.instanceMethod yX2_stepBack ∈ wsL_law := wc_31 _ (List.mem_of_getElem? (i := 3) rfl)
theorem wq_31_4 : Cond.selects RX2 yX2_stepBack yX2_stepBack ∈ wsL_law := wc_31 _ (List.mem_of_getElem? (i := 4) rfl)
theorem wq_31_5 : Cond.code yX2_stepBack cX2_stepBack 2 (some .int) ∈ wsL_law := wc_31 _ (List.mem_of_getElem? (i := 5) rfl)
theorem wq_31_6 : Cond.methodLink RL 107 yX7_undo ∈ wsL_law := wc_31 _ (List.mem_of_getElem? (i := 6) rfl)
theorem wq_31_7 : Cond.instanceMethod yX7_undo ∈ wsL_law := wc_31 _ (List.mem_of_getElem? (i := 7) rfl)
theorem wq_31_8 : Cond.selects RX7 yX7_undo yX7_undo ∈ wsL_law := wc_31 _ (List.mem_of_getElem? (i := 8) rfl)
theorem wq_31_9 : Cond.code yX7_undo cX7_undo 1 (some .int) ∈ wsL_law := wc_31 _ (List.mem_of_getElem? (i := 9) rfl)
theorem wq_31_10 : Cond.methodLink RL 108 yX6_save ∈ wsL_law := wc_31 _ (List.mem_of_getElem? (i := 10) rfl)
theorem wq_31_11 : Cond.instanceMethod yX6_save ∈ wsL_law := wc_31 _ (List.mem_of_getElem? (i := 11) rfl)
theorem wq_31_12 : Cond.selects RX6 yX6_save yX6_save ∈ wsL_law := wc_31 _ (List.mem_of_getElem? (i := 12) rfl)
theorem wq_31_13 : Cond.code yX6_save cX6_save 2 (some .int) ∈ wsL_law := wc_31 _ (List.mem_of_getElem? (i := 13) rfl)
theorem wq_31_14 : Cond.methodLink RX6 200 yX4_copyFrom ∈ wsL_law := wc_31 _ (List.mem_of_getElem? (i := 14) rfl)
theorem wq_31_15 : Cond.methodLink RL 111 yX7_save ∈ wsL_law := wc_31 _ (List.mem_of_getElem? (i := 15) rfl)
theorem wq_31_16 : Cond.instanceMethod yX7_save ∈ wsL_law := wc_31 _ (List.mem_of_getElem? (i := 16) rfl)
theorem wq_31_17 : Cond.selects RX7 yX7_save yX7_save ∈ wsL_law := wc_31 _ (List.mem_of_getElem? (i := 17) rfl)
theorem wq_31_18 : Cond.code yX7_save cX7_save 2 (some .int) ∈ wsL_law := wc_31 _ (List.mem_of_getElem? (i := 18) rfl)
theorem wq_31_19 : Cond.methodLink RL 112 yX6_restore ∈ wsL_law := wc_31 _ (List.mem_of_getElem? (i := 19) rfl)
theorem wq_31_20 : Cond.instanceMethod yX6_restore ∈ wsL_law := wc_31 _ (List.mem_of_getElem? (i := 20) rfl)
theorem wq_31_21 : Cond.selects RX6 yX6_restore yX6_restore ∈ wsL_law := wc_31 _ (List.mem_of_getElem? (i := 21) rfl)
theorem wq_31_22 : Cond.code yX6_restore cX6_restore 2 (some .int) ∈ wsL_law := wc_31 _ (List.mem_of_getElem? (i := 22) rfl)
theorem wq_31_23 : Cond.methodLink RL 115 yX7_restore ∈ wsL_law := wc_31 _ (List.mem_of_getElem? (i := 23) rfl)
theorem wq_32_0 : Cond.instanceMethod yX7_restore ∈ wsL_law := wc_32 _ (List.mem_of_getElem? (i := 0) rfl)
theorem wq_32_1 : Cond.selects RX7 yX7_restore yX7_restore ∈ wsL_law := wc_32 _ (List.mem_of_getElem? (i := 1) rfl)
theorem wq_32_2 : Cond.code yX7_restore cX7_restore 2 (some .int) ∈ wsL_law := wc_32 _ (List.mem_of_getElem? (i := 2) rfl)
set_option maxRecDepth 100000 in
theorem w0_good : wsL_law.all goodWord = true := by decide +kernel
theorem w0_mem {w : Cond} (h : w ∈ wsL_law) : ∀ x : List Cond, GoodIn wsL_law x → GoodIn wsL_law (w :: x) := fun x hx u hu => by
  rcases List.mem_cons.mp hu with e | e
  · subst e; exact goodIn_sub (big := wsL_law) (ws := wsL_law) (fun _ h => h) w0_good u h
  · exact hx u e
theorem w0_all : GoodIn wsL_law wsL_law := goodIn_sub (fun _ h => h) w0_good
theorem w0_V {own C : String} {idx mL : Nat} {y : MethodName} {bytes : ByteArray} {rt : Option FieldType} (h1 : Cond.methodLink own idx y ∈ wsL_law) (h2 : Cond.instanceMethod y ∈ wsL_law) (h3 : Cond.selects C y y ∈ wsL_law) (h4 : Cond.initialized C ∈ wsL_law) (h5 : Cond.code y bytes mL rt ∈ wsL_law) : GoodIn wsL_law (wsV own idx C y (Cond.code y bytes mL rt :: wsL_law)) :=
  w0_mem h1 _ (w0_mem h2 _ (w0_mem h3 _ (w0_mem h4 _ (w0_mem h5 _ w0_all))))
theorem w0_S {own : String} {idx mL : Nat} {y : MethodName} {bytes : ByteArray} {rt : Option FieldType} (h1 : Cond.methodLink own idx y ∈ wsL_law) (h2 : Cond.static y ∈ wsL_law) (h4 : Cond.initialized y.cls ∈ wsL_law) (h5 : Cond.code y bytes mL rt ∈ wsL_law) : GoodIn wsL_law (va_wsS own idx y (Cond.code y bytes mL rt :: wsL_law)) :=
  w0_mem h1 _ (w0_mem h2 _ (w0_mem h4 _ (w0_mem h5 _ w0_all)))
theorem w0_C {y : MethodName} {mL : Nat} {bytes : ByteArray} {rt : Option FieldType} (h5 : Cond.code y bytes mL rt ∈ wsL_law) : GoodIn wsL_law (Cond.code y bytes mL rt :: wsL_law) := w0_mem h5 _ w0_all
